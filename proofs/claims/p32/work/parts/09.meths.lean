theorem my_X11_init : q_cy yX11_init cX11_init 1 none 0 := ⟨w20, w1, by decide +kernel, by decide +kernel, by decide +kernel⟩
theorem my_X8_init : q_cy yX8_init cX8_init 1 none 0 := ⟨w27, w2, by decide +kernel, by decide +kernel, by decide +kernel⟩
theorem my_X4_init : q_cy yX4_init cX4_init 1 none 0 := ⟨w40, w3, by decide +kernel, by decide +kernel, by decide +kernel⟩
theorem my_X3_init : q_cy yX3_init cX3_init 1 none 0 := ⟨w45, w4, by decide +kernel, by decide +kernel, by decide +kernel⟩
theorem my_X7_init : q_cy yX7_init cX7_init 2 none 0 := ⟨w78, w5, by decide +kernel, by decide +kernel, by decide +kernel⟩
theorem my_X7_layAnew : q_cy yX7_layAnew cX7_layAnew 3 none 1 := ⟨w83, w5, by decide +kernel, by decide +kernel, by decide +kernel⟩
theorem mv_X7_layAnew : q_cyV yX7_layAnew 6 := ⟨w81, w82, _, rfl, rfl⟩
theorem my_X7_makeBare : q_cy yX7_makeBare cX7_makeBare 3 none 1 := ⟨w87, w5, by decide +kernel, by decide +kernel, by decide +kernel⟩
theorem mv_X7_makeBare : q_cyV yX7_makeBare 6 := ⟨w85, w86, _, rfl, rfl⟩
theorem my_X6_init : q_cy yX6_init cX6_init 1 none 0 := ⟨w159, w6, by decide +kernel, by decide +kernel, by decide +kernel⟩
theorem my_X1_init : q_cy yX1_init cX1_init 1 none 0 := ⟨w176, w7, by decide +kernel, by decide +kernel, by decide +kernel⟩
theorem my_X0_init : q_cy yX0_init cX0_init 1 none 0 := ⟨w188, w8, by decide +kernel, by decide +kernel, by decide +kernel⟩
theorem my_X10_init : q_cy yX10_init cX10_init 1 none 0 := ⟨w201, w9, by decide +kernel, by decide +kernel, by decide +kernel⟩
theorem my_X2_init : q_cy yX2_init cX2_init 1 none 0 := ⟨w211, w10, by decide +kernel, by decide +kernel, by decide +kernel⟩
theorem my_X11_road : q_cy yX11_road cX11_road 2 (some .boolean) 1 := ⟨w236, w1, by decide +kernel, by decide +kernel, by decide +kernel⟩
theorem mv_X11_road : q_cyV yX11_road 9 := ⟨w234, w235, _, rfl, rfl⟩
theorem my_X11_isIn : q_cy yX11_isIn cX11_isIn 3 (some .boolean) 3 := ⟨w239, w1, by decide +kernel, by decide +kernel, by decide +kernel⟩
theorem my_X11_row : q_cy yX11_row cX11_row 4 (some .int) 2 := ⟨w244, w1, by decide +kernel, by decide +kernel, by decide +kernel⟩
theorem mv_X11_row : q_cyV yX11_row 9 := ⟨w242, w243, _, rfl, rfl⟩
theorem my_X8_read : q_cy yX8_read cX8_read 6 (some .int) 4 := ⟨w248, w2, by decide +kernel, by decide +kernel, by decide +kernel⟩
theorem mv_X8_read : q_cyV yX8_read 7 := ⟨w246, w247, _, rfl, rfl⟩
theorem my_J9_min_7cf53 : q_cy yJ9_min_7cf53 cJ9_min_7cf53 2 (some .int) 2 := ⟨w251, w12, by decide +kernel, by decide +kernel, by decide +kernel⟩
theorem my_X8_readValue : q_cy yX8_readValue cX8_readValue 9 (some .boolean) 2 := ⟨w254, w2, by decide +kernel, by decide +kernel, by decide +kernel⟩
theorem mv_X8_readValue : q_cyV yX8_readValue 7 := ⟨w253, w1220, _, rfl, rfl⟩
theorem my_X8_peek : q_cy yX8_peek cX8_peek 1 (some .int) 0 := ⟨w257, w2, by decide +kernel, by decide +kernel, by decide +kernel⟩
theorem mv_X8_peek : q_cyV yX8_peek 7 := ⟨w256, w1221, _, rfl, rfl⟩
theorem my_X8_readNumber : q_cy yX8_readNumber cX8_readNumber 3 (some .int) 0 := ⟨w260, w2, by decide +kernel, by decide +kernel, by decide +kernel⟩
theorem mv_X8_readNumber : q_cyV yX8_readNumber 7 := ⟨w259, w1222, _, rfl, rfl⟩
theorem my_J9_max_7cf53 : q_cy yJ9_max_7cf53 cJ9_max_7cf53 2 (some .int) 2 := ⟨w263, w12, by decide +kernel, by decide +kernel, by decide +kernel⟩
theorem my_X8_fail : q_cy yX8_fail cX8_fail 3 (some .boolean) 2 := ⟨w266, w2, by decide +kernel, by decide +kernel, by decide +kernel⟩
theorem mv_X8_fail : q_cyV yX8_fail 7 := ⟨w265, w1223, _, rfl, rfl⟩
theorem my_X8_sumOfAmounts : q_cy yX8_sumOfAmounts cX8_sumOfAmounts 3 (some .int) 0 := ⟨w269, w2, by decide +kernel, by decide +kernel, by decide +kernel⟩
theorem mv_X8_sumOfAmounts : q_cyV yX8_sumOfAmounts 7 := ⟨w268, w1224, _, rfl, rfl⟩
theorem my_J9_abs_0f7a4 : q_cy yJ9_abs_0f7a4 cJ9_abs_0f7a4 1 (some .int) 1 := ⟨w272, w12, by decide +kernel, by decide +kernel, by decide +kernel⟩
theorem my_X7_rowOf : q_cy yX7_rowOf cX7_rowOf 2 (some (.array .int)) 1 := ⟨w276, w5, by decide +kernel, by decide +kernel, by decide +kernel⟩
theorem mv_X7_rowOf : q_cyV yX7_rowOf 6 := ⟨w274, w275, _, rfl, rfl⟩
theorem my_X8_writeTo : q_cy yX8_writeTo cX8_writeTo 4 none 2 := ⟨w280, w2, by decide +kernel, by decide +kernel, by decide +kernel⟩
theorem mv_X8_writeTo : q_cyV yX8_writeTo 7 := ⟨w278, w279, _, rfl, rfl⟩
theorem my_X11_old : q_cy yX11_old cX11_old 5 (some .boolean) 3 := ⟨w284, w1, by decide +kernel, by decide +kernel, by decide +kernel⟩
theorem mv_X11_old : q_cyV yX11_old 9 := ⟨w282, w283, _, rfl, rfl⟩
theorem my_X7_isStretch : q_cy yX7_isStretch cX7_isStretch 3 (some .boolean) 2 := ⟨w288, w5, by decide +kernel, by decide +kernel, by decide +kernel⟩
theorem mv_X7_isStretch : q_cyV yX7_isStretch 6 := ⟨w286, w287, _, rfl, rfl⟩
theorem my_X7_isDot : q_cy yX7_isDot cX7_isDot 2 (some .boolean) 1 := ⟨w292, w5, by decide +kernel, by decide +kernel, by decide +kernel⟩
theorem mv_X7_isDot : q_cyV yX7_isDot 6 := ⟨w290, w291, _, rfl, rfl⟩
theorem my_X11_feed : q_cy yX11_feed cX11_feed 6 (some .int) 5 := ⟨w296, w1, by decide +kernel, by decide +kernel, by decide +kernel⟩
theorem mv_X11_feed : q_cyV yX11_feed 9 := ⟨w294, w295, _, rfl, rfl⟩
theorem my_X11_putOnTape : q_cy yX11_putOnTape cX11_putOnTape 3 none 1 := ⟨w299, w1, by decide +kernel, by decide +kernel, by decide +kernel⟩
theorem mv_X11_putOnTape : q_cyV yX11_putOnTape 9 := ⟨w298, w1225, _, rfl, rfl⟩
theorem my_X11_law : q_cy yX11_law cX11_law 4 (some .int) 1 := ⟨w303, w1, by decide +kernel, by decide +kernel, by decide +kernel⟩
theorem mv_X11_law : q_cyV yX11_law 9 := ⟨w301, w302, _, rfl, rfl⟩
theorem my_X4_read : q_cy yX4_read cX4_read 4 (some .int) 2 := ⟨w307, w3, by decide +kernel, by decide +kernel, by decide +kernel⟩
theorem mv_X4_read : q_cyV yX4_read 4 := ⟨w305, w306, _, rfl, rfl⟩
theorem my_X3_clear : q_cy yX3_clear cX3_clear 1 none 0 := ⟨w312, w4, by decide +kernel, by decide +kernel, by decide +kernel⟩
theorem mv_X3_clear : q_cyV yX3_clear 3 := ⟨w310, w311, _, rfl, rfl⟩
theorem my_X4_readClause : q_cy yX4_readClause cX4_readClause 3 (some .boolean) 1 := ⟨w315, w3, by decide +kernel, by decide +kernel, by decide +kernel⟩
theorem mv_X4_readClause : q_cyV yX4_readClause 4 := ⟨w314, w1226, _, rfl, rfl⟩
theorem my_X4_peek : q_cy yX4_peek cX4_peek 1 (some .int) 0 := ⟨w318, w3, by decide +kernel, by decide +kernel, by decide +kernel⟩
theorem mv_X4_peek : q_cyV yX4_peek 4 := ⟨w317, w1227, _, rfl, rfl⟩
theorem my_X4_fail : q_cy yX4_fail cX4_fail 2 (some .boolean) 1 := ⟨w321, w3, by decide +kernel, by decide +kernel, by decide +kernel⟩
theorem mv_X4_fail : q_cyV yX4_fail 4 := ⟨w320, w1228, _, rfl, rfl⟩
theorem my_X3_beginClause : q_cy yX3_beginClause cX3_beginClause 2 none 1 := ⟨w325, w4, by decide +kernel, by decide +kernel, by decide +kernel⟩
theorem mv_X3_beginClause : q_cyV yX3_beginClause 3 := ⟨w323, w324, _, rfl, rfl⟩
theorem my_X4_readSum : q_cy yX4_readSum cX4_readSum 5 (some .boolean) 1 := ⟨w328, w3, by decide +kernel, by decide +kernel, by decide +kernel⟩
theorem mv_X4_readSum : q_cyV yX4_readSum 4 := ⟨w327, w1229, _, rfl, rfl⟩
theorem my_X4_readTerm : q_cy yX4_readTerm cX4_readTerm 5 (some .boolean) 1 := ⟨w331, w3, by decide +kernel, by decide +kernel, by decide +kernel⟩
theorem mv_X4_readTerm : q_cyV yX4_readTerm 4 := ⟨w330, w1230, _, rfl, rfl⟩
theorem my_X4_readFactor : q_cy yX4_readFactor cX4_readFactor 3 (some .boolean) 1 := ⟨w334, w3, by decide +kernel, by decide +kernel, by decide +kernel⟩
theorem mv_X4_readFactor : q_cyV yX4_readFactor 4 := ⟨w333, w1231, _, rfl, rfl⟩
theorem my_X4_mayOpen : q_cy yX4_mayOpen cX4_mayOpen 2 (some .boolean) 1 := ⟨w337, w3, by decide +kernel, by decide +kernel, by decide +kernel⟩
theorem mv_X4_mayOpen : q_cyV yX4_mayOpen 4 := ⟨w336, w1232, _, rfl, rfl⟩
theorem my_X4_expect : q_cy yX4_expect cX4_expect 2 (some .boolean) 1 := ⟨w340, w3, by decide +kernel, by decide +kernel, by decide +kernel⟩
theorem mv_X4_expect : q_cyV yX4_expect 4 := ⟨w339, w1233, _, rfl, rfl⟩
theorem my_X4_readNumber : q_cy yX4_readNumber cX4_readNumber 3 (some .boolean) 0 := ⟨w343, w3, by decide +kernel, by decide +kernel, by decide +kernel⟩
theorem mv_X4_readNumber : q_cyV yX4_readNumber 4 := ⟨w342, w1234, _, rfl, rfl⟩
theorem my_X3_add : q_cy yX3_add cX3_add 3 (some .int) 2 := ⟨w347, w4, by decide +kernel, by decide +kernel, by decide +kernel⟩
theorem mv_X3_add : q_cyV yX3_add 3 := ⟨w345, w346, _, rfl, rfl⟩
theorem my_X4_isValueLetter : q_cy yX4_isValueLetter cX4_isValueLetter 1 (some .boolean) 1 := ⟨w350, w3, by decide +kernel, by decide +kernel, by decide +kernel⟩
theorem my_X4_isTimes : q_cy yX4_isTimes cX4_isTimes 1 (some .boolean) 1 := ⟨w353, w3, by decide +kernel, by decide +kernel, by decide +kernel⟩
theorem my_X3_beginCondition : q_cy yX3_beginCondition cX3_beginCondition 1 none 0 := ⟨w357, w4, by decide +kernel, by decide +kernel, by decide +kernel⟩
theorem mv_X3_beginCondition : q_cyV yX3_beginCondition 3 := ⟨w355, w356, _, rfl, rfl⟩
theorem my_X4_readParts : q_cy yX4_readParts cX4_readParts 5 (some .boolean) 1 := ⟨w360, w3, by decide +kernel, by decide +kernel, by decide +kernel⟩
theorem mv_X4_readParts : q_cyV yX4_readParts 4 := ⟨w359, w1235, _, rfl, rfl⟩
theorem my_X4_readPart : q_cy yX4_readPart cX4_readPart 5 (some .boolean) 1 := ⟨w363, w3, by decide +kernel, by decide +kernel, by decide +kernel⟩
theorem mv_X4_readPart : q_cyV yX4_readPart 4 := ⟨w362, w1236, _, rfl, rfl⟩
theorem my_X4_readPiece : q_cy yX4_readPiece cX4_readPiece 3 (some .boolean) 1 := ⟨w366, w3, by decide +kernel, by decide +kernel, by decide +kernel⟩
theorem mv_X4_readPiece : q_cyV yX4_readPiece 4 := ⟨w365, w1237, _, rfl, rfl⟩
theorem my_X3_leadHere : q_cy yX3_leadHere cX3_leadHere 2 none 1 := ⟨w370, w4, by decide +kernel, by decide +kernel, by decide +kernel⟩
theorem mv_X3_leadHere : q_cyV yX3_leadHere 3 := ⟨w368, w369, _, rfl, rfl⟩
theorem my_X11_party : q_cy yX11_party cX11_party 4 (some .boolean) 3 := ⟨w374, w1, by decide +kernel, by decide +kernel, by decide +kernel⟩
theorem mv_X11_party : q_cyV yX11_party 9 := ⟨w372, w373, _, rfl, rfl⟩
theorem my_X11_car : q_cy yX11_car cX11_car 4 (some .boolean) 3 := ⟨w379, w1, by decide +kernel, by decide +kernel, by decide +kernel⟩
theorem mv_X11_car : q_cyV yX11_car 9 := ⟨w377, w378, _, rfl, rfl⟩
theorem my_X11_cones : q_cy yX11_cones cX11_cones 2 (some .boolean) 1 := ⟨w383, w1, by decide +kernel, by decide +kernel, by decide +kernel⟩
theorem mv_X11_cones : q_cyV yX11_cones 9 := ⟨w381, w382, _, rfl, rfl⟩
theorem my_X11_dew : q_cy yX11_dew cX11_dew 2 (some .boolean) 1 := ⟨w387, w1, by decide +kernel, by decide +kernel, by decide +kernel⟩
theorem mv_X11_dew : q_cyV yX11_dew 9 := ⟨w385, w386, _, rfl, rfl⟩
theorem my_X11_burns : q_cy yX11_burns cX11_burns 5 (some .int) 2 := ⟨w391, w1, by decide +kernel, by decide +kernel, by decide +kernel⟩
theorem mv_X11_burns : q_cyV yX11_burns 9 := ⟨w389, w390, _, rfl, rfl⟩
theorem my_X7_isPainted : q_cy yX7_isPainted cX7_isPainted 2 (some .boolean) 1 := ⟨w395, w5, by decide +kernel, by decide +kernel, by decide +kernel⟩
theorem mv_X7_isPainted : q_cyV yX7_isPainted 6 := ⟨w393, w394, _, rfl, rfl⟩
theorem my_X11_minutes : q_cy yX11_minutes cX11_minutes 2 (some .int) 1 := ⟨w399, w1, by decide +kernel, by decide +kernel, by decide +kernel⟩
theorem mv_X11_minutes : q_cyV yX11_minutes 9 := ⟨w397, w398, _, rfl, rfl⟩
theorem my_X5_pass : q_cy yX5_pass cX5_pass 5 (some .int) 3 := ⟨w402, w13, by decide +kernel, by decide +kernel, by decide +kernel⟩
theorem my_X5_beginDots : q_cy yX5_beginDots cX5_beginDots 4 none 2 := ⟨w405, w13, by decide +kernel, by decide +kernel, by decide +kernel⟩
theorem my_X7_nextFor : q_cy yX7_nextFor cX7_nextFor 4 (some .int) 1 := ⟨w409, w5, by decide +kernel, by decide +kernel, by decide +kernel⟩
theorem mv_X7_nextFor : q_cyV yX7_nextFor 6 := ⟨w407, w408, _, rfl, rfl⟩
theorem my_X7_isBeingPainted : q_cy yX7_isBeingPainted cX7_isBeingPainted 2 (some .boolean) 1 := ⟨w414, w5, by decide +kernel, by decide +kernel, by decide +kernel⟩
theorem mv_X7_isBeingPainted : q_cyV yX7_isBeingPainted 6 := ⟨w412, w413, _, rfl, rfl⟩
theorem my_X7_painterOf : q_cy yX7_painterOf cX7_painterOf 3 (some .int) 1 := ⟨w418, w5, by decide +kernel, by decide +kernel, by decide +kernel⟩
theorem mv_X7_painterOf : q_cyV yX7_painterOf 6 := ⟨w416, w417, _, rfl, rfl⟩
theorem my_X7_conesInUse : q_cy yX7_conesInUse cX7_conesInUse 3 (some .int) 0 := ⟨w422, w5, by decide +kernel, by decide +kernel, by decide +kernel⟩
theorem mv_X7_conesInUse : q_cyV yX7_conesInUse 6 := ⟨w420, w421, _, rfl, rfl⟩
theorem my_X7_wetDots : q_cy yX7_wetDots cX7_wetDots 3 (some .int) 0 := ⟨w426, w5, by decide +kernel, by decide +kernel, by decide +kernel⟩
theorem mv_X7_wetDots : q_cyV yX7_wetDots 6 := ⟨w424, w425, _, rfl, rfl⟩
theorem my_X7_isWet : q_cy yX7_isWet cX7_isWet 2 (some .boolean) 1 := ⟨w430, w5, by decide +kernel, by decide +kernel, by decide +kernel⟩
theorem mv_X7_isWet : q_cyV yX7_isWet 6 := ⟨w428, w429, _, rfl, rfl⟩
theorem my_X3_ask : q_cy yX3_ask cX3_ask 9 (some .int) 6 := ⟨w434, w4, by decide +kernel, by decide +kernel, by decide +kernel⟩
theorem mv_X3_ask : q_cyV yX3_ask 3 := ⟨w432, w433, _, rfl, rfl⟩
theorem my_X3_run : q_cy yX3_run cX3_run 4 (some .int) 1 := ⟨w437, w4, by decide +kernel, by decide +kernel, by decide +kernel⟩
theorem mv_X3_run : q_cyV yX3_run 3 := ⟨w436, w1238, _, rfl, rfl⟩
theorem my_X3_take : q_cy yX3_take cX3_take 5 (some .int) 1 := ⟨w440, w4, by decide +kernel, by decide +kernel, by decide +kernel⟩
theorem mv_X3_take : q_cyV yX3_take 3 := ⟨w439, w1239, _, rfl, rfl⟩
theorem my_X3_push : q_cy yX3_push cX3_push 2 none 1 := ⟨w443, w4, by decide +kernel, by decide +kernel, by decide +kernel⟩
theorem mv_X3_push : q_cyV yX3_push 3 := ⟨w442, w1240, _, rfl, rfl⟩
theorem my_X3_valueOf : q_cy yX3_valueOf cX3_valueOf 2 (some .int) 1 := ⟨w446, w4, by decide +kernel, by decide +kernel, by decide +kernel⟩
theorem mv_X3_valueOf : q_cyV yX3_valueOf 3 := ⟨w445, w1241, _, rfl, rfl⟩
theorem my_X3_pop : q_cy yX3_pop cX3_pop 1 (some .int) 0 := ⟨w450, w4, by decide +kernel, by decide +kernel, by decide +kernel⟩
theorem mv_X3_pop : q_cyV yX3_pop 3 := ⟨w449, w1242, _, rfl, rfl⟩
theorem my_X3_skipOrGoOn : q_cy yX3_skipOrGoOn cX3_skipOrGoOn 4 (some .int) 1 := ⟨w453, w4, by decide +kernel, by decide +kernel, by decide +kernel⟩
theorem mv_X3_skipOrGoOn : q_cyV yX3_skipOrGoOn 3 := ⟨w452, w1243, _, rfl, rfl⟩
theorem my_X3_reckon : q_cy yX3_reckon cX3_reckon 4 (some .int) 3 := ⟨w456, w4, by decide +kernel, by decide +kernel, by decide +kernel⟩
theorem mv_X3_reckon : q_cyV yX3_reckon 3 := ⟨w455, w1244, _, rfl, rfl⟩
theorem my_X3_highest : q_cy yX3_highest cX3_highest 1 (some .int) 1 := ⟨w459, w4, by decide +kernel, by decide +kernel, by decide +kernel⟩
theorem my_X11_heldIn : q_cy yX11_heldIn cX11_heldIn 3 (some .int) 3 := ⟨w461, w1, by decide +kernel, by decide +kernel, by decide +kernel⟩
theorem my_X5_paintDots : q_cy yX5_paintDots cX5_paintDots 5 (some .int) 2 := ⟨w466, w13, by decide +kernel, by decide +kernel, by decide +kernel⟩
theorem my_X7_offsetBy : q_cy yX7_offsetBy cX7_offsetBy 3 (some .int) 2 := ⟨w471, w5, by decide +kernel, by decide +kernel, by decide +kernel⟩
theorem mv_X7_offsetBy : q_cyV yX7_offsetBy 6 := ⟨w469, w470, _, rfl, rfl⟩
theorem my_X5_drive : q_cy yX5_drive cX5_drive 4 none 1 := ⟨w474, w13, by decide +kernel, by decide +kernel, by decide +kernel⟩
theorem my_X7_spoil : q_cy yX7_spoil cX7_spoil 3 none 2 := ⟨w480, w5, by decide +kernel, by decide +kernel, by decide +kernel⟩
theorem mv_X7_spoil : q_cyV yX7_spoil 6 := ⟨w478, w479, _, rfl, rfl⟩
theorem my_X5_letDewFall : q_cy yX5_letDewFall cX5_letDewFall 2 none 1 := ⟨w483, w13, by decide +kernel, by decide +kernel, by decide +kernel⟩
theorem my_X11_tried : q_cy yX11_tried cX11_tried 3 (some .int) 2 := ⟨w487, w1, by decide +kernel, by decide +kernel, by decide +kernel⟩
theorem mv_X11_tried : q_cyV yX11_tried 9 := ⟨w485, w486, _, rfl, rfl⟩
theorem my_X7_copyFrom : q_cy yX7_copyFrom cX7_copyFrom 3 none 1 := ⟨w491, w5, by decide +kernel, by decide +kernel, by decide +kernel⟩
theorem mv_X7_copyFrom : q_cyV yX7_copyFrom 6 := ⟨w489, w490, _, rfl, rfl⟩
theorem my_X7_paintedDots : q_cy yX7_paintedDots cX7_paintedDots 3 (some .int) 0 := ⟨w498, w5, by decide +kernel, by decide +kernel, by decide +kernel⟩
theorem mv_X7_paintedDots : q_cyV yX7_paintedDots 6 := ⟨w496, w497, _, rfl, rfl⟩
theorem my_X7_spoiltDots : q_cy yX7_spoiltDots cX7_spoiltDots 3 (some .int) 0 := ⟨w502, w5, by decide +kernel, by decide +kernel, by decide +kernel⟩
theorem mv_X7_spoiltDots : q_cyV yX7_spoiltDots 6 := ⟨w500, w501, _, rfl, rfl⟩
theorem my_X7_isSpoilt : q_cy yX7_isSpoilt cX7_isSpoilt 2 (some .boolean) 1 := ⟨w506, w5, by decide +kernel, by decide +kernel, by decide +kernel⟩
theorem mv_X7_isSpoilt : q_cyV yX7_isSpoilt 6 := ⟨w504, w505, _, rfl, rfl⟩
theorem my_X7_offKerb : q_cy yX7_offKerb cX7_offKerb 3 (some .int) 0 := ⟨w511, w5, by decide +kernel, by decide +kernel, by decide +kernel⟩
theorem mv_X7_offKerb : q_cyV yX7_offKerb 6 := ⟨w509, w510, _, rfl, rfl⟩
theorem my_X11_dot : q_cy yX11_dot cX11_dot 3 (some .int) 2 := ⟨w516, w1, by decide +kernel, by decide +kernel, by decide +kernel⟩
theorem mv_X11_dot : q_cyV yX11_dot 9 := ⟨w514, w515, _, rfl, rfl⟩
theorem my_X11_shifted : q_cy yX11_shifted cX11_shifted 1 (some .int) 1 := ⟨w520, w1, by decide +kernel, by decide +kernel, by decide +kernel⟩
theorem my_X11_smooth : q_cy yX11_smooth cX11_smooth 4 (some .int) 2 := ⟨w526, w1, by decide +kernel, by decide +kernel, by decide +kernel⟩
theorem mv_X11_smooth : q_cyV yX11_smooth 9 := ⟨w524, w525, _, rfl, rfl⟩
theorem my_X1_makeSmooth : q_cy yX1_makeSmooth cX1_makeSmooth 7 (some .int) 2 := ⟨w530, w7, by decide +kernel, by decide +kernel, by decide +kernel⟩
theorem mv_X1_makeSmooth : q_cyV yX1_makeSmooth 1 := ⟨w528, w529, _, rfl, rfl⟩
theorem my_X1_nearest : q_cy yX1_nearest cX1_nearest 3 (some .int) 3 := ⟨w534, w7, by decide +kernel, by decide +kernel, by decide +kernel⟩
theorem my_X1_lowestBest : q_cy yX1_lowestBest cX1_lowestBest 3 (some .int) 0 := ⟨w538, w7, by decide +kernel, by decide +kernel, by decide +kernel⟩
theorem mv_X1_lowestBest : q_cyV yX1_lowestBest 1 := ⟨w537, w1245, _, rfl, rfl⟩
theorem my_X11_apart : q_cy yX11_apart cX11_apart 4 (some .int) 2 := ⟨w542, w1, by decide +kernel, by decide +kernel, by decide +kernel⟩
theorem mv_X11_apart : q_cyV yX11_apart 9 := ⟨w540, w541, _, rfl, rfl⟩
theorem my_X1_greatestApart : q_cy yX1_greatestApart cX1_greatestApart 3 (some .int) 2 := ⟨w545, w7, by decide +kernel, by decide +kernel, by decide +kernel⟩
theorem my_X1_fitsApart : q_cy yX1_fitsApart cX1_fitsApart 4 (some .boolean) 3 := ⟨w548, w7, by decide +kernel, by decide +kernel, by decide +kernel⟩
theorem my_X1_fitsBetween : q_cy yX1_fitsBetween cX1_fitsBetween 5 (some .boolean) 4 := ⟨w552, w7, by decide +kernel, by decide +kernel, by decide +kernel⟩
theorem my_X1_offAt : q_cy yX1_offAt cX1_offAt 5 (some .int) 4 := ⟨w555, w7, by decide +kernel, by decide +kernel, by decide +kernel⟩
theorem my_X1_offByApart : q_cy yX1_offByApart cX1_offByApart 4 (some .int) 2 := ⟨w559, w7, by decide +kernel, by decide +kernel, by decide +kernel⟩
theorem my_X1_offBetween : q_cy yX1_offBetween cX1_offBetween 5 (some .int) 3 := ⟨w562, w7, by decide +kernel, by decide +kernel, by decide +kernel⟩
theorem my_X11_seen : q_cy yX11_seen cX11_seen 4 (some .int) 3 := ⟨w566, w1, by decide +kernel, by decide +kernel, by decide +kernel⟩
theorem mv_X11_seen : q_cyV yX11_seen 9 := ⟨w564, w565, _, rfl, rfl⟩
theorem my_X11_isEye : q_cy yX11_isEye cX11_isEye 1 (some .boolean) 1 := ⟨w569, w1, by decide +kernel, by decide +kernel, by decide +kernel⟩
theorem my_X9_dotsAhead : q_cy yX9_dotsAhead cX9_dotsAhead 10 (some .int) 4 := ⟨w572, w15, by decide +kernel, by decide +kernel, by decide +kernel⟩
theorem my_X11_marked : q_cy yX11_marked cX11_marked 3 (some .int) 2 := ⟨w577, w1, by decide +kernel, by decide +kernel, by decide +kernel⟩
theorem mv_X11_marked : q_cyV yX11_marked 9 := ⟨w575, w576, _, rfl, rfl⟩
theorem my_X9_marking : q_cy yX9_marking cX9_marking 6 (some .int) 4 := ⟨w580, w15, by decide +kernel, by decide +kernel, by decide +kernel⟩
theorem my_X9_isBroken : q_cy yX9_isBroken cX9_isBroken 5 (some .boolean) 5 := ⟨w583, w15, by decide +kernel, by decide +kernel, by decide +kernel⟩
theorem my_X9_suffices : q_cy yX9_suffices cX9_suffices 7 (some .boolean) 5 := ⟨w587, w15, by decide +kernel, by decide +kernel, by decide +kernel⟩
theorem my_X11_markings : q_cy yX11_markings cX11_markings 8 (some .int) 3 := ⟨w592, w1, by decide +kernel, by decide +kernel, by decide +kernel⟩
theorem mv_X11_markings : q_cyV yX11_markings 9 := ⟨w590, w591, _, rfl, rfl⟩
theorem my_X11_joins : q_cy yX11_joins cX11_joins 5 (some .int) 3 := ⟨w596, w1, by decide +kernel, by decide +kernel, by decide +kernel⟩
theorem mv_X11_joins : q_cyV yX11_joins 9 := ⟨w594, w595, _, rfl, rfl⟩
theorem my_X11_isOffset : q_cy yX11_isOffset cX11_isOffset 1 (some .boolean) 1 := ⟨w599, w1, by decide +kernel, by decide +kernel, by decide +kernel⟩
theorem my_X11_begins : q_cy yX11_begins cX11_begins 3 (some .int) 2 := ⟨w604, w1, by decide +kernel, by decide +kernel, by decide +kernel⟩
theorem mv_X11_begins : q_cyV yX11_begins 9 := ⟨w602, w603, _, rfl, rfl⟩
theorem my_X6_paint : q_cy yX6_paint cX6_paint 8 none 4 := ⟨w608, w6, by decide +kernel, by decide +kernel, by decide +kernel⟩
theorem mv_X6_paint : q_cyV yX6_paint 5 := ⟨w606, w607, _, rfl, rfl⟩
theorem my_X6_paintOne : q_cy yX6_paintOne cX6_paintOne 7 none 4 := ⟨w611, w6, by decide +kernel, by decide +kernel, by decide +kernel⟩
theorem mv_X6_paintOne : q_cyV yX6_paintOne 5 := ⟨w610, w1246, _, rfl, rfl⟩
theorem my_X6_conesNeeded : q_cy yX6_conesNeeded cX6_conesNeeded 6 (some .int) 1 := ⟨w617, w6, by decide +kernel, by decide +kernel, by decide +kernel⟩
theorem mv_X6_conesNeeded : q_cyV yX6_conesNeeded 5 := ⟨w615, w616, _, rfl, rfl⟩
theorem my_X11_latest : q_cy yX11_latest cX11_latest 4 (some .int) 1 := ⟨w621, w1, by decide +kernel, by decide +kernel, by decide +kernel⟩
theorem mv_X11_latest : q_cyV yX11_latest 9 := ⟨w619, w620, _, rfl, rfl⟩
theorem my_X11_dewOdds : q_cy yX11_dewOdds cX11_dewOdds 9 (some .int) 4 := ⟨w625, w1, by decide +kernel, by decide +kernel, by decide +kernel⟩
theorem mv_X11_dewOdds : q_cyV yX11_dewOdds 9 := ⟨w623, w624, _, rfl, rfl⟩
theorem my_X11_commonDivisor : q_cy yX11_commonDivisor cX11_commonDivisor 6 (some .int) 2 := ⟨w628, w1, by decide +kernel, by decide +kernel, by decide +kernel⟩
theorem my_X11_meet : q_cy yX11_meet cX11_meet 5 (some .int) 3 := ⟨w632, w1, by decide +kernel, by decide +kernel, by decide +kernel⟩
theorem mv_X11_meet : q_cyV yX11_meet 9 := ⟨w630, w631, _, rfl, rfl⟩
theorem my_X11_pinned : q_cy yX11_pinned cX11_pinned 4 (some .int) 2 := ⟨w637, w1, by decide +kernel, by decide +kernel, by decide +kernel⟩
theorem mv_X11_pinned : q_cyV yX11_pinned 9 := ⟨w635, w636, _, rfl, rfl⟩
theorem my_X1_pin : q_cy yX1_pin cX1_pin 7 (some .int) 2 := ⟨w641, w7, by decide +kernel, by decide +kernel, by decide +kernel⟩
theorem mv_X1_pin : q_cyV yX1_pin 1 := ⟨w639, w640, _, rfl, rfl⟩
theorem my_X1_offByPins : q_cy yX1_offByPins cX1_offByPins 5 (some .int) 2 := ⟨w646, w7, by decide +kernel, by decide +kernel, by decide +kernel⟩
theorem mv_X1_offByPins : q_cyV yX1_offByPins 1 := ⟨w644, w645, _, rfl, rfl⟩
theorem my_X11_lights : q_cy yX11_lights cX11_lights 7 (some .int) 3 := ⟨w650, w1, by decide +kernel, by decide +kernel, by decide +kernel⟩
theorem mv_X11_lights : q_cyV yX11_lights 9 := ⟨w648, w649, _, rfl, rfl⟩
theorem my_X2_take : q_cy yX2_take cX2_take 4 (some .boolean) 2 := ⟨w654, w10, by decide +kernel, by decide +kernel, by decide +kernel⟩
theorem mv_X2_take : q_cyV yX2_take 2 := ⟨w652, w653, _, rfl, rfl⟩
theorem my_X2_waits : q_cy yX2_waits cX2_waits 7 (some .int) 2 := ⟨w658, w10, by decide +kernel, by decide +kernel, by decide +kernel⟩
theorem mv_X2_waits : q_cyV yX2_waits 2 := ⟨w656, w657, _, rfl, rfl⟩
theorem my_X2_nextGreen : q_cy yX2_nextGreen cX2_nextGreen 7 (some .int) 4 := ⟨w662, w10, by decide +kernel, by decide +kernel, by decide +kernel⟩
theorem my_J9_floorMod_7cf53 : q_cy yJ9_floorMod_7cf53 cJ9_floorMod_7cf53 3 (some .int) 2 := ⟨w665, w12, by decide +kernel, by decide +kernel, by decide +kernel⟩
theorem my_X2_bestGreen : q_cy yX2_bestGreen cX2_bestGreen 6 (some .int) 1 := ⟨w669, w10, by decide +kernel, by decide +kernel, by decide +kernel⟩
theorem mv_X2_bestGreen : q_cyV yX2_bestGreen 2 := ⟨w667, w668, _, rfl, rfl⟩
theorem my_X11_believed : q_cy yX11_believed cX11_believed 3 (some .int) 2 := ⟨w674, w1, by decide +kernel, by decide +kernel, by decide +kernel⟩
theorem mv_X11_believed : q_cyV yX11_believed 9 := ⟨w672, w673, _, rfl, rfl⟩
theorem my_X0_belief : q_cy yX0_belief cX0_belief 7 (some .int) 4 := ⟨w677, w8, by decide +kernel, by decide +kernel, by decide +kernel⟩
theorem my_X11_lost : q_cy yX11_lost cX11_lost 3 (some .int) 2 := ⟨w684, w1, by decide +kernel, by decide +kernel, by decide +kernel⟩
theorem mv_X11_lost : q_cyV yX11_lost 9 := ⟨w682, w683, _, rfl, rfl⟩
theorem my_X0_findLost : q_cy yX0_findLost cX0_findLost 8 (some .int) 4 := ⟨w688, w8, by decide +kernel, by decide +kernel, by decide +kernel⟩
theorem mv_X0_findLost : q_cyV yX0_findLost 0 := ⟨w686, w687, _, rfl, rfl⟩
theorem my_X11_burnFirst : q_cy yX11_burnFirst cX11_burnFirst 8 (some .int) 4 := ⟨w694, w1, by decide +kernel, by decide +kernel, by decide +kernel⟩
theorem mv_X11_burnFirst : q_cyV yX11_burnFirst 9 := ⟨w692, w693, _, rfl, rfl⟩
theorem my_X0_lostIn : q_cy yX0_lostIn cX0_lostIn 5 (some .int) 2 := ⟨w698, w8, by decide +kernel, by decide +kernel, by decide +kernel⟩
theorem mv_X0_lostIn : q_cyV yX0_lostIn 0 := ⟨w696, w697, _, rfl, rfl⟩
theorem my_X11_cut : q_cy yX11_cut cX11_cut 6 (some .int) 3 := ⟨w702, w1, by decide +kernel, by decide +kernel, by decide +kernel⟩
theorem mv_X11_cut : q_cyV yX11_cut 9 := ⟨w700, w701, _, rfl, rfl⟩
theorem my_X11_renewed : q_cy yX11_renewed cX11_renewed 5 (some .int) 3 := ⟨w708, w1, by decide +kernel, by decide +kernel, by decide +kernel⟩
theorem mv_X11_renewed : q_cyV yX11_renewed 9 := ⟨w706, w707, _, rfl, rfl⟩
theorem my_X10_choose : q_cy yX10_choose cX10_choose 8 (some .int) 3 := ⟨w712, w9, by decide +kernel, by decide +kernel, by decide +kernel⟩
theorem mv_X10_choose : q_cyV yX10_choose 8 := ⟨w710, w711, _, rfl, rfl⟩
theorem my_X10_mostFrom : q_cy yX10_mostFrom cX10_mostFrom 6 (some .int) 4 := ⟨w715, w9, by decide +kernel, by decide +kernel, by decide +kernel⟩
theorem mv_X10_mostFrom : q_cyV yX10_mostFrom 8 := ⟨w714, w1247, _, rfl, rfl⟩
theorem my_X10_mostBegunAt : q_cy yX10_mostBegunAt cX10_mostBegunAt 7 (some .int) 4 := ⟨w718, w9, by decide +kernel, by decide +kernel, by decide +kernel⟩
theorem mv_X10_mostBegunAt : q_cyV yX10_mostBegunAt 8 := ⟨w717, w1248, _, rfl, rfl⟩
theorem my_X11_who : q_cy yX11_who cX11_who 2 (some .int) 1 := ⟨w723, w1, by decide +kernel, by decide +kernel, by decide +kernel⟩
theorem mv_X11_who : q_cyV yX11_who 9 := ⟨w721, w722, _, rfl, rfl⟩
theorem my_X0_suspect : q_cy yX0_suspect cX0_suspect 3 none 1 := ⟨w727, w8, by decide +kernel, by decide +kernel, by decide +kernel⟩
theorem mv_X0_suspect : q_cyV yX0_suspect 0 := ⟨w725, w726, _, rfl, rfl⟩
theorem my_X0_suspectOneWay : q_cy yX0_suspectOneWay cX0_suspectOneWay 8 none 2 := ⟨w730, w8, by decide +kernel, by decide +kernel, by decide +kernel⟩
theorem mv_X0_suspectOneWay : q_cyV yX0_suspectOneWay 0 := ⟨w729, w1249, _, rfl, rfl⟩
theorem my_X0_isHitByCar : q_cy yX0_isHitByCar cX0_isHitByCar 2 (some .boolean) 2 := ⟨w733, w8, by decide +kernel, by decide +kernel, by decide +kernel⟩
theorem my_X0_hitsFrom : q_cy yX0_hitsFrom cX0_hitsFrom 3 (some .int) 3 := ⟨w736, w8, by decide +kernel, by decide +kernel, by decide +kernel⟩
theorem my_X0_freeFrom : q_cy yX0_freeFrom cX0_freeFrom 6 (some .int) 3 := ⟨w741, w8, by decide +kernel, by decide +kernel, by decide +kernel⟩
theorem my_X0_mustBeSpared : q_cy yX0_mustBeSpared cX0_mustBeSpared 2 (some .boolean) 2 := ⟨w744, w8, by decide +kernel, by decide +kernel, by decide +kernel⟩
theorem my_X0_nextHit : q_cy yX0_nextHit cX0_nextHit 7 (some .int) 4 := ⟨w747, w8, by decide +kernel, by decide +kernel, by decide +kernel⟩
theorem my_X0_note : q_cy yX0_note cX0_note 4 none 3 := ⟨w750, w8, by decide +kernel, by decide +kernel, by decide +kernel⟩
theorem mv_X0_note : q_cyV yX0_note 0 := ⟨w749, w1250, _, rfl, rfl⟩
theorem my_X11_keep : q_cy yX11_keep cX11_keep 1 (some .int) 0 := ⟨w754, w1, by decide +kernel, by decide +kernel, by decide +kernel⟩
theorem mv_X11_keep : q_cyV yX11_keep 9 := ⟨w752, w753, _, rfl, rfl⟩
theorem my_X11_undo : q_cy yX11_undo cX11_undo 1 (some .boolean) 0 := ⟨w758, w1, by decide +kernel, by decide +kernel, by decide +kernel⟩
theorem mv_X11_undo : q_cyV yX11_undo 9 := ⟨w756, w757, _, rfl, rfl⟩
theorem my_X11_check : q_cy yX11_check cX11_check 4 (some .int) 1 := ⟨w762, w1, by decide +kernel, by decide +kernel, by decide +kernel⟩
theorem mv_X11_check : q_cyV yX11_check 9 := ⟨w760, w761, _, rfl, rfl⟩
theorem my_X11_count : q_cy yX11_count cX11_count 2 (some .int) 1 := ⟨w766, w1, by decide +kernel, by decide +kernel, by decide +kernel⟩
theorem mv_X11_count : q_cyV yX11_count 9 := ⟨w764, w765, _, rfl, rfl⟩
theorem my_X12_init : q_cy yX12_init cX12_init 1 none 0 := ⟨w771, w11, by decide +kernel, by decide +kernel, by decide +kernel⟩
theorem my_X12_road : q_cy yX12_road cX12_road 3 (some .boolean) 1 := ⟨w776, w11, by decide +kernel, by decide +kernel, by decide +kernel⟩
theorem mv_X12_road : q_cyV yX12_road 10 := ⟨w774, w775, _, rfl, rfl⟩
theorem my_X12_in : q_cy yX12_in cX12_in 3 (some .boolean) 3 := ⟨w779, w11, by decide +kernel, by decide +kernel, by decide +kernel⟩
theorem my_X12_bares : q_cy yX12_bares cX12_bares 2 none 1 := ⟨w782, w11, by decide +kernel, by decide +kernel, by decide +kernel⟩
theorem mv_X12_bares : q_cyV yX12_bares 10 := ⟨w781, w1251, _, rfl, rfl⟩
theorem my_X12_old : q_cy yX12_old cX12_old 5 (some .boolean) 3 := ⟨w835, w11, by decide +kernel, by decide +kernel, by decide +kernel⟩
theorem mv_X12_old : q_cyV yX12_old 10 := ⟨w833, w834, _, rfl, rfl⟩
theorem my_X12_isDot : q_cy yX12_isDot cX12_isDot 2 (some .boolean) 1 := ⟨w838, w11, by decide +kernel, by decide +kernel, by decide +kernel⟩
theorem mv_X12_isDot : q_cyV yX12_isDot 10 := ⟨w837, w1252, _, rfl, rfl⟩
theorem my_X12_party : q_cy yX12_party cX12_party 4 (some .boolean) 3 := ⟨w842, w11, by decide +kernel, by decide +kernel, by decide +kernel⟩
theorem mv_X12_party : q_cyV yX12_party 10 := ⟨w840, w841, _, rfl, rfl⟩
theorem my_X12_leaves : q_cy yX12_leaves cX12_leaves 2 none 1 := ⟨w845, w11, by decide +kernel, by decide +kernel, by decide +kernel⟩
theorem mv_X12_leaves : q_cyV yX12_leaves 10 := ⟨w844, w1253, _, rfl, rfl⟩
theorem my_X12_car : q_cy yX12_car cX12_car 4 (some .boolean) 3 := ⟨w849, w11, by decide +kernel, by decide +kernel, by decide +kernel⟩
theorem mv_X12_car : q_cyV yX12_car 10 := ⟨w847, w848, _, rfl, rfl⟩
theorem my_X12_cones : q_cy yX12_cones cX12_cones 2 (some .boolean) 1 := ⟨w853, w11, by decide +kernel, by decide +kernel, by decide +kernel⟩
theorem mv_X12_cones : q_cyV yX12_cones 10 := ⟨w851, w852, _, rfl, rfl⟩
theorem my_X12_dew : q_cy yX12_dew cX12_dew 2 (some .boolean) 1 := ⟨w857, w11, by decide +kernel, by decide +kernel, by decide +kernel⟩
theorem mv_X12_dew : q_cyV yX12_dew 10 := ⟨w855, w856, _, rfl, rfl⟩
theorem my_X12_burns : q_cy yX12_burns cX12_burns 6 (some .int) 2 := ⟨w861, w11, by decide +kernel, by decide +kernel, by decide +kernel⟩
theorem mv_X12_burns : q_cyV yX12_burns 10 := ⟨w859, w860, _, rfl, rfl⟩
theorem my_X12_isPainted : q_cy yX12_isPainted cX12_isPainted 2 (some .boolean) 1 := ⟨w864, w11, by decide +kernel, by decide +kernel, by decide +kernel⟩
theorem mv_X12_isPainted : q_cyV yX12_isPainted 10 := ⟨w863, w1254, _, rfl, rfl⟩
theorem my_X12_feed : q_cy yX12_feed cX12_feed 6 (some .int) 5 := ⟨w868, w11, by decide +kernel, by decide +kernel, by decide +kernel⟩
theorem mv_X12_feed : q_cyV yX12_feed 10 := ⟨w866, w867, _, rfl, rfl⟩
theorem my_X12_types : q_cy yX12_types cX12_types 3 none 1 := ⟨w871, w11, by decide +kernel, by decide +kernel, by decide +kernel⟩
theorem mv_X12_types : q_cyV yX12_types 10 := ⟨w870, w1255, _, rfl, rfl⟩
theorem my_X12_row : q_cy yX12_row cX12_row 6 (some .int) 2 := ⟨w875, w11, by decide +kernel, by decide +kernel, by decide +kernel⟩
theorem mv_X12_row : q_cyV yX12_row 10 := ⟨w873, w874, _, rfl, rfl⟩
theorem my_X12_readsValue : q_cy yX12_readsValue cX12_readsValue 8 (some .boolean) 1 := ⟨w878, w11, by decide +kernel, by decide +kernel, by decide +kernel⟩
theorem mv_X12_readsValue : q_cyV yX12_readsValue 10 := ⟨w877, w1256, _, rfl, rfl⟩
theorem my_X12_here : q_cy yX12_here cX12_here 1 (some .int) 0 := ⟨w881, w11, by decide +kernel, by decide +kernel, by decide +kernel⟩
theorem mv_X12_here : q_cyV yX12_here 10 := ⟨w880, w1257, _, rfl, rfl⟩
theorem my_X12_readsTwo : q_cy yX12_readsTwo cX12_readsTwo 2 (some .boolean) 0 := ⟨w884, w11, by decide +kernel, by decide +kernel, by decide +kernel⟩
theorem mv_X12_readsTwo : q_cyV yX12_readsTwo 10 := ⟨w883, w1258, _, rfl, rfl⟩
theorem my_X12_isDigit : q_cy yX12_isDigit cX12_isDigit 1 (some .boolean) 0 := ⟨w887, w11, by decide +kernel, by decide +kernel, by decide +kernel⟩
theorem mv_X12_isDigit : q_cyV yX12_isDigit 10 := ⟨w886, w1259, _, rfl, rfl⟩
theorem my_X12_wrongAt : q_cy yX12_wrongAt cX12_wrongAt 3 (some .boolean) 2 := ⟨w890, w11, by decide +kernel, by decide +kernel, by decide +kernel⟩
theorem mv_X12_wrongAt : q_cyV yX12_wrongAt 10 := ⟨w889, w1260, _, rfl, rfl⟩
theorem my_X12_takes : q_cy yX12_takes cX12_takes 2 (some .boolean) 1 := ⟨w893, w11, by decide +kernel, by decide +kernel, by decide +kernel⟩
theorem mv_X12_takes : q_cyV yX12_takes 10 := ⟨w892, w1261, _, rfl, rfl⟩
theorem my_X12_size : q_cy yX12_size cX12_size 1 (some .int) 1 := ⟨w896, w11, by decide +kernel, by decide +kernel, by decide +kernel⟩
theorem my_X12_law : q_cy yX12_law cX12_law 4 (some .int) 1 := ⟨w900, w11, by decide +kernel, by decide +kernel, by decide +kernel⟩
theorem mv_X12_law : q_cyV yX12_law 10 := ⟨w898, w899, _, rfl, rfl⟩
theorem my_X12_readsClause : q_cy yX12_readsClause cX12_readsClause 2 (some .boolean) 0 := ⟨w903, w11, by decide +kernel, by decide +kernel, by decide +kernel⟩
theorem mv_X12_readsClause : q_cyV yX12_readsClause 10 := ⟨w902, w1262, _, rfl, rfl⟩
theorem my_X12_isClause : q_cy yX12_isClause cX12_isClause 1 (some .boolean) 1 := ⟨w906, w11, by decide +kernel, by decide +kernel, by decide +kernel⟩
theorem my_X12_readsSum : q_cy yX12_readsSum cX12_readsSum 3 (some .boolean) 0 := ⟨w909, w11, by decide +kernel, by decide +kernel, by decide +kernel⟩
theorem mv_X12_readsSum : q_cyV yX12_readsSum 10 := ⟨w908, w1263, _, rfl, rfl⟩
theorem my_X12_readsFactor : q_cy yX12_readsFactor cX12_readsFactor 2 (some .boolean) 0 := ⟨w912, w11, by decide +kernel, by decide +kernel, by decide +kernel⟩
theorem mv_X12_readsFactor : q_cyV yX12_readsFactor 10 := ⟨w911, w1264, _, rfl, rfl⟩
theorem my_X12_opens : q_cy yX12_opens cX12_opens 2 (some .boolean) 1 := ⟨w915, w11, by decide +kernel, by decide +kernel, by decide +kernel⟩
theorem mv_X12_opens : q_cyV yX12_opens 10 := ⟨w914, w1265, _, rfl, rfl⟩
theorem my_X12_readsNumber : q_cy yX12_readsNumber cX12_readsNumber 2 (some .boolean) 0 := ⟨w919, w11, by decide +kernel, by decide +kernel, by decide +kernel⟩
theorem mv_X12_readsNumber : q_cyV yX12_readsNumber 10 := ⟨w918, w1266, _, rfl, rfl⟩
theorem my_X12_notes : q_cy yX12_notes cX12_notes 3 none 2 := ⟨w922, w11, by decide +kernel, by decide +kernel, by decide +kernel⟩
theorem mv_X12_notes : q_cyV yX12_notes 10 := ⟨w921, w1267, _, rfl, rfl⟩
theorem my_X12_factOf : q_cy yX12_factOf cX12_factOf 1 (some .int) 1 := ⟨w925, w11, by decide +kernel, by decide +kernel, by decide +kernel⟩
theorem my_X12_sumSign : q_cy yX12_sumSign cX12_sumSign 1 (some .int) 1 := ⟨w928, w11, by decide +kernel, by decide +kernel, by decide +kernel⟩
theorem my_X12_closesSums : q_cy yX12_closesSums cX12_closesSums 2 none 1 := ⟨w931, w11, by decide +kernel, by decide +kernel, by decide +kernel⟩
theorem mv_X12_closesSums : q_cyV yX12_closesSums 10 := ⟨w930, w1268, _, rfl, rfl⟩
theorem my_X12_waitTop : q_cy yX12_waitTop cX12_waitTop 1 (some .int) 0 := ⟨w934, w11, by decide +kernel, by decide +kernel, by decide +kernel⟩
theorem mv_X12_waitTop : q_cyV yX12_waitTop 10 := ⟨w933, w1269, _, rfl, rfl⟩
theorem my_X12_hasOpenSum : q_cy yX12_hasOpenSum cX12_hasOpenSum 3 (some .boolean) 1 := ⟨w937, w11, by decide +kernel, by decide +kernel, by decide +kernel⟩
theorem mv_X12_hasOpenSum : q_cyV yX12_hasOpenSum 10 := ⟨w936, w1270, _, rfl, rfl⟩
theorem my_X12_readsCondition : q_cy yX12_readsCondition cX12_readsCondition 1 (some .boolean) 0 := ⟨w940, w11, by decide +kernel, by decide +kernel, by decide +kernel⟩
theorem mv_X12_readsCondition : q_cyV yX12_readsCondition 10 := ⟨w939, w1271, _, rfl, rfl⟩
theorem my_X12_readsCompared : q_cy yX12_readsCompared cX12_readsCompared 2 (some .boolean) 0 := ⟨w943, w11, by decide +kernel, by decide +kernel, by decide +kernel⟩
theorem mv_X12_readsCompared : q_cyV yX12_readsCompared 10 := ⟨w942, w1272, _, rfl, rfl⟩
theorem my_X12_endsPiece : q_cy yX12_endsPiece cX12_endsPiece 1 none 0 := ⟨w946, w11, by decide +kernel, by decide +kernel, by decide +kernel⟩
theorem mv_X12_endsPiece : q_cyV yX12_endsPiece 10 := ⟨w945, w1273, _, rfl, rfl⟩
theorem my_X12_lands : q_cy yX12_lands cX12_lands 3 none 1 := ⟨w949, w11, by decide +kernel, by decide +kernel, by decide +kernel⟩
theorem mv_X12_lands : q_cyV yX12_lands 10 := ⟨w948, w1274, _, rfl, rfl⟩
theorem my_X12_jumps : q_cy yX12_jumps cX12_jumps 2 none 1 := ⟨w952, w11, by decide +kernel, by decide +kernel, by decide +kernel⟩
theorem mv_X12_jumps : q_cyV yX12_jumps 10 := ⟨w951, w1275, _, rfl, rfl⟩
theorem my_X12_minutes : q_cy yX12_minutes cX12_minutes 2 (some .int) 1 := ⟨w956, w11, by decide +kernel, by decide +kernel, by decide +kernel⟩
theorem mv_X12_minutes : q_cyV yX12_minutes 10 := ⟨w954, w955, _, rfl, rfl⟩
theorem my_X12_minutesGo : q_cy yX12_minutesGo cX12_minutesGo 3 none 1 := ⟨w959, w11, by decide +kernel, by decide +kernel, by decide +kernel⟩
theorem mv_X12_minutesGo : q_cyV yX12_minutesGo 10 := ⟨w958, w1276, _, rfl, rfl⟩
theorem my_X12_minuteGoes : q_cy yX12_minuteGoes cX12_minuteGoes 2 none 0 := ⟨w962, w11, by decide +kernel, by decide +kernel, by decide +kernel⟩
theorem mv_X12_minuteGoes : q_cyV yX12_minuteGoes 10 := ⟨w961, w1277, _, rfl, rfl⟩
theorem my_X12_beginsWith : q_cy yX12_beginsWith cX12_beginsWith 3 none 1 := ⟨w965, w11, by decide +kernel, by decide +kernel, by decide +kernel⟩
theorem mv_X12_beginsWith : q_cyV yX12_beginsWith 10 := ⟨w964, w1278, _, rfl, rfl⟩
theorem my_X12_nextOf : q_cy yX12_nextOf cX12_nextOf 3 (some .int) 1 := ⟨w968, w11, by decide +kernel, by decide +kernel, by decide +kernel⟩
theorem mv_X12_nextOf : q_cyV yX12_nextOf 10 := ⟨w967, w1279, _, rfl, rfl⟩
theorem my_X12_isPainting : q_cy yX12_isPainting cX12_isPainting 2 (some .boolean) 1 := ⟨w971, w11, by decide +kernel, by decide +kernel, by decide +kernel⟩
theorem mv_X12_isPainting : q_cyV yX12_isPainting 10 := ⟨w970, w1280, _, rfl, rfl⟩
theorem my_X12_busy : q_cy yX12_busy cX12_busy 4 (some .int) 1 := ⟨w974, w11, by decide +kernel, by decide +kernel, by decide +kernel⟩
theorem mv_X12_busy : q_cyV yX12_busy 10 := ⟨w973, w1281, _, rfl, rfl⟩
theorem my_X12_isWet : q_cy yX12_isWet cX12_isWet 3 (some .boolean) 2 := ⟨w977, w11, by decide +kernel, by decide +kernel, by decide +kernel⟩
theorem mv_X12_isWet : q_cyV yX12_isWet 10 := ⟨w976, w1282, _, rfl, rfl⟩
theorem my_X12_paintsFor : q_cy yX12_paintsFor cX12_paintsFor 4 (some .int) 3 := ⟨w980, w11, by decide +kernel, by decide +kernel, by decide +kernel⟩
theorem mv_X12_paintsFor : q_cyV yX12_paintsFor 10 := ⟨w979, w1283, _, rfl, rfl⟩
theorem my_X12_feels : q_cy yX12_feels cX12_feels 5 none 4 := ⟨w983, w11, by decide +kernel, by decide +kernel, by decide +kernel⟩
theorem mv_X12_feels : q_cyV yX12_feels 10 := ⟨w982, w1284, _, rfl, rfl⟩
theorem my_X12_byLaw : q_cy yX12_byLaw cX12_byLaw 6 (some .int) 3 := ⟨w986, w11, by decide +kernel, by decide +kernel, by decide +kernel⟩
theorem mv_X12_byLaw : q_cyV yX12_byLaw 10 := ⟨w985, w1285, _, rfl, rfl⟩
theorem my_X12_comesTo : q_cy yX12_comesTo cX12_comesTo 8 (some .int) 2 := ⟨w989, w11, by decide +kernel, by decide +kernel, by decide +kernel⟩
theorem mv_X12_comesTo : q_cyV yX12_comesTo 10 := ⟨w988, w1286, _, rfl, rfl⟩
theorem my_X12_reckon : q_cy yX12_reckon cX12_reckon 3 (some .int) 3 := ⟨w992, w11, by decide +kernel, by decide +kernel, by decide +kernel⟩
theorem my_X12_paintsOn : q_cy yX12_paintsOn cX12_paintsOn 3 none 1 := ⟨w995, w11, by decide +kernel, by decide +kernel, by decide +kernel⟩
theorem mv_X12_paintsOn : q_cyV yX12_paintsOn 10 := ⟨w994, w1287, _, rfl, rfl⟩
theorem my_X12_held : q_cy yX12_held cX12_held 1 (some .int) 1 := ⟨w998, w11, by decide +kernel, by decide +kernel, by decide +kernel⟩
theorem my_X12_min : q_cy yX12_min cX12_min 2 (some .int) 2 := ⟨w1001, w11, by decide +kernel, by decide +kernel, by decide +kernel⟩
theorem my_X12_max : q_cy yX12_max cX12_max 2 (some .int) 2 := ⟨w1004, w11, by decide +kernel, by decide +kernel, by decide +kernel⟩
theorem my_X12_driesFor : q_cy yX12_driesFor cX12_driesFor 4 (some .int) 3 := ⟨w1007, w11, by decide +kernel, by decide +kernel, by decide +kernel⟩
theorem mv_X12_driesFor : q_cyV yX12_driesFor 10 := ⟨w1006, w1288, _, rfl, rfl⟩
theorem my_X12_drives : q_cy yX12_drives cX12_drives 4 none 1 := ⟨w1010, w11, by decide +kernel, by decide +kernel, by decide +kernel⟩
theorem mv_X12_drives : q_cyV yX12_drives 10 := ⟨w1009, w1289, _, rfl, rfl⟩
theorem my_X12_has : q_cy yX12_has cX12_has 2 (some .boolean) 2 := ⟨w1013, w11, by decide +kernel, by decide +kernel, by decide +kernel⟩
theorem my_X12_tried : q_cy yX12_tried cX12_tried 4 (some .int) 2 := ⟨w1017, w11, by decide +kernel, by decide +kernel, by decide +kernel⟩
theorem mv_X12_tried : q_cyV yX12_tried 10 := ⟨w1015, w1016, _, rfl, rfl⟩
theorem my_X12_copies : q_cy yX12_copies cX12_copies 3 none 2 := ⟨w1020, w11, by decide +kernel, by decide +kernel, by decide +kernel⟩
theorem my_X12_paintedAll : q_cy yX12_paintedAll cX12_paintedAll 3 (some .int) 0 := ⟨w1023, w11, by decide +kernel, by decide +kernel, by decide +kernel⟩
theorem mv_X12_paintedAll : q_cyV yX12_paintedAll 10 := ⟨w1022, w1290, _, rfl, rfl⟩
theorem my_X12_spoiltAll : q_cy yX12_spoiltAll cX12_spoiltAll 3 (some .int) 0 := ⟨w1026, w11, by decide +kernel, by decide +kernel, by decide +kernel⟩
theorem mv_X12_spoiltAll : q_cyV yX12_spoiltAll 10 := ⟨w1025, w1291, _, rfl, rfl⟩
theorem my_X12_wetAll : q_cy yX12_wetAll cX12_wetAll 3 (some .int) 0 := ⟨w1029, w11, by decide +kernel, by decide +kernel, by decide +kernel⟩
theorem mv_X12_wetAll : q_cyV yX12_wetAll 10 := ⟨w1028, w1292, _, rfl, rfl⟩
theorem my_X12_offAll : q_cy yX12_offAll cX12_offAll 3 (some .int) 0 := ⟨w1032, w11, by decide +kernel, by decide +kernel, by decide +kernel⟩
theorem mv_X12_offAll : q_cyV yX12_offAll 10 := ⟨w1031, w1293, _, rfl, rfl⟩
theorem my_X12_dot : q_cy yX12_dot cX12_dot 3 (some .int) 2 := ⟨w1036, w11, by decide +kernel, by decide +kernel, by decide +kernel⟩
theorem mv_X12_dot : q_cyV yX12_dot 10 := ⟨w1034, w1035, _, rfl, rfl⟩
theorem my_X12_paintedBy : q_cy yX12_paintedBy cX12_paintedBy 2 (some .int) 1 := ⟨w1039, w11, by decide +kernel, by decide +kernel, by decide +kernel⟩
theorem mv_X12_paintedBy : q_cyV yX12_paintedBy 10 := ⟨w1038, w1294, _, rfl, rfl⟩
theorem my_X12_smooth : q_cy yX12_smooth cX12_smooth 9 (some .int) 2 := ⟨w1043, w11, by decide +kernel, by decide +kernel, by decide +kernel⟩
theorem mv_X12_smooth : q_cyV yX12_smooth 10 := ⟨w1041, w1042, _, rfl, rfl⟩
theorem my_X12_laysSmooth : q_cy yX12_laysSmooth cX12_laysSmooth 7 none 1 := ⟨w1046, w11, by decide +kernel, by decide +kernel, by decide +kernel⟩
theorem mv_X12_laysSmooth : q_cyV yX12_laysSmooth 10 := ⟨w1045, w1295, _, rfl, rfl⟩
theorem my_X12_offBy : q_cy yX12_offBy cX12_offBy 3 (some .int) 2 := ⟨w1050, w11, by decide +kernel, by decide +kernel, by decide +kernel⟩
theorem mv_X12_offBy : q_cyV yX12_offBy 10 := ⟨w1049, w1296, _, rfl, rfl⟩
theorem my_X12_apart : q_cy yX12_apart cX12_apart 8 (some .int) 2 := ⟨w1054, w11, by decide +kernel, by decide +kernel, by decide +kernel⟩
theorem mv_X12_apart : q_cyV yX12_apart 10 := ⟨w1052, w1053, _, rfl, rfl⟩
theorem my_X12_worst : q_cy yX12_worst cX12_worst 5 (some .int) 2 := ⟨w1057, w11, by decide +kernel, by decide +kernel, by decide +kernel⟩
theorem mv_X12_worst : q_cyV yX12_worst 10 := ⟨w1056, w1297, _, rfl, rfl⟩
theorem my_X12_straight : q_cy yX12_straight cX12_straight 4 (some .int) 3 := ⟨w1060, w11, by decide +kernel, by decide +kernel, by decide +kernel⟩
theorem mv_X12_straight : q_cyV yX12_straight 10 := ⟨w1059, w1298, _, rfl, rfl⟩
theorem my_X12_offBetween : q_cy yX12_offBetween cX12_offBetween 5 (some .int) 2 := ⟨w1063, w11, by decide +kernel, by decide +kernel, by decide +kernel⟩
theorem mv_X12_offBetween : q_cyV yX12_offBetween 10 := ⟨w1062, w1299, _, rfl, rfl⟩
theorem my_X12_pinned : q_cy yX12_pinned cX12_pinned 6 (some .int) 2 := ⟨w1067, w11, by decide +kernel, by decide +kernel, by decide +kernel⟩
theorem mv_X12_pinned : q_cyV yX12_pinned 10 := ⟨w1065, w1066, _, rfl, rfl⟩
theorem my_X12_laysPins : q_cy yX12_laysPins cX12_laysPins 6 (some .int) 1 := ⟨w1070, w11, by decide +kernel, by decide +kernel, by decide +kernel⟩
theorem mv_X12_laysPins : q_cyV yX12_laysPins 10 := ⟨w1069, w1300, _, rfl, rfl⟩
theorem my_X12_seen : q_cy yX12_seen cX12_seen 4 (some .int) 3 := ⟨w1074, w11, by decide +kernel, by decide +kernel, by decide +kernel⟩
theorem mv_X12_seen : q_cyV yX12_seen 10 := ⟨w1072, w1073, _, rfl, rfl⟩
theorem my_X12_seenFrom : q_cy yX12_seenFrom cX12_seenFrom 5 (some .int) 3 := ⟨w1077, w11, by decide +kernel, by decide +kernel, by decide +kernel⟩
theorem mv_X12_seenFrom : q_cyV yX12_seenFrom 10 := ⟨w1076, w1301, _, rfl, rfl⟩
theorem my_X12_ahead : q_cy yX12_ahead cX12_ahead 3 (some .int) 2 := ⟨w1080, w11, by decide +kernel, by decide +kernel, by decide +kernel⟩
theorem mv_X12_ahead : q_cyV yX12_ahead 10 := ⟨w1079, w1302, _, rfl, rfl⟩
theorem my_X12_isHidden : q_cy yX12_isHidden cX12_isHidden 8 (some .boolean) 4 := ⟨w1083, w11, by decide +kernel, by decide +kernel, by decide +kernel⟩
theorem mv_X12_isHidden : q_cyV yX12_isHidden 10 := ⟨w1082, w1303, _, rfl, rfl⟩
theorem my_X12_marked : q_cy yX12_marked cX12_marked 3 (some .int) 2 := ⟨w1087, w11, by decide +kernel, by decide +kernel, by decide +kernel⟩
theorem mv_X12_marked : q_cyV yX12_marked 10 := ⟨w1085, w1086, _, rfl, rfl⟩
theorem my_X12_markAt : q_cy yX12_markAt cX12_markAt 4 (some .int) 2 := ⟨w1090, w11, by decide +kernel, by decide +kernel, by decide +kernel⟩
theorem mv_X12_markAt : q_cyV yX12_markAt 10 := ⟨w1089, w1304, _, rfl, rfl⟩
theorem my_X12_mustSee : q_cy yX12_mustSee cX12_mustSee 2 (some .int) 1 := ⟨w1093, w11, by decide +kernel, by decide +kernel, by decide +kernel⟩
theorem mv_X12_mustSee : q_cyV yX12_mustSee 10 := ⟨w1092, w1305, _, rfl, rfl⟩
theorem my_X12_isEnough : q_cy yX12_isEnough cX12_isEnough 6 (some .boolean) 4 := ⟨w1096, w11, by decide +kernel, by decide +kernel, by decide +kernel⟩
theorem mv_X12_isEnough : q_cyV yX12_isEnough 10 := ⟨w1095, w1306, _, rfl, rfl⟩
theorem my_X12_markings : q_cy yX12_markings cX12_markings 9 (some .int) 3 := ⟨w1100, w11, by decide +kernel, by decide +kernel, by decide +kernel⟩
theorem mv_X12_markings : q_cyV yX12_markings 10 := ⟨w1098, w1099, _, rfl, rfl⟩
theorem my_X12_cut : q_cy yX12_cut cX12_cut 6 (some .int) 3 := ⟨w1104, w11, by decide +kernel, by decide +kernel, by decide +kernel⟩
theorem mv_X12_cut : q_cyV yX12_cut 10 := ⟨w1102, w1103, _, rfl, rfl⟩
theorem my_X12_joins : q_cy yX12_joins cX12_joins 5 (some .int) 3 := ⟨w1108, w11, by decide +kernel, by decide +kernel, by decide +kernel⟩
theorem mv_X12_joins : q_cyV yX12_joins 10 := ⟨w1106, w1107, _, rfl, rfl⟩
theorem my_X12_begins : q_cy yX12_begins cX12_begins 3 (some .int) 2 := ⟨w1112, w11, by decide +kernel, by decide +kernel, by decide +kernel⟩
theorem mv_X12_begins : q_cyV yX12_begins 10 := ⟨w1110, w1111, _, rfl, rfl⟩
theorem my_X12_paintsBare : q_cy yX12_paintsBare cX12_paintsBare 4 none 2 := ⟨w1115, w11, by decide +kernel, by decide +kernel, by decide +kernel⟩
theorem mv_X12_paintsBare : q_cyV yX12_paintsBare 10 := ⟨w1114, w1307, _, rfl, rfl⟩
theorem my_X12_startsOne : q_cy yX12_startsOne cX12_startsOne 3 none 2 := ⟨w1118, w11, by decide +kernel, by decide +kernel, by decide +kernel⟩
theorem mv_X12_startsOne : q_cyV yX12_startsOne 10 := ⟨w1117, w1308, _, rfl, rfl⟩
theorem my_X12_endsOne : q_cy yX12_endsOne cX12_endsOne 4 none 2 := ⟨w1121, w11, by decide +kernel, by decide +kernel, by decide +kernel⟩
theorem mv_X12_endsOne : q_cyV yX12_endsOne 10 := ⟨w1120, w1309, _, rfl, rfl⟩
theorem my_X12_allDry : q_cy yX12_allDry cX12_allDry 3 (some .int) 0 := ⟨w1124, w11, by decide +kernel, by decide +kernel, by decide +kernel⟩
theorem mv_X12_allDry : q_cyV yX12_allDry 10 := ⟨w1123, w1310, _, rfl, rfl⟩
theorem my_X12_conesFor : q_cy yX12_conesFor cX12_conesFor 5 (some .int) 0 := ⟨w1127, w11, by decide +kernel, by decide +kernel, by decide +kernel⟩
theorem mv_X12_conesFor : q_cyV yX12_conesFor 10 := ⟨w1126, w1311, _, rfl, rfl⟩
theorem my_X12_latest : q_cy yX12_latest cX12_latest 3 (some .int) 1 := ⟨w1131, w11, by decide +kernel, by decide +kernel, by decide +kernel⟩
theorem mv_X12_latest : q_cyV yX12_latest 10 := ⟨w1129, w1130, _, rfl, rfl⟩
theorem my_X12_dryFrom : q_cy yX12_dryFrom cX12_dryFrom 2 (some .int) 1 := ⟨w1134, w11, by decide +kernel, by decide +kernel, by decide +kernel⟩
theorem mv_X12_dryFrom : q_cyV yX12_dryFrom 10 := ⟨w1133, w1312, _, rfl, rfl⟩
theorem my_X12_dewOdds : q_cy yX12_dewOdds cX12_dewOdds 9 (some .int) 4 := ⟨w1138, w11, by decide +kernel, by decide +kernel, by decide +kernel⟩
theorem mv_X12_dewOdds : q_cyV yX12_dewOdds 10 := ⟨w1136, w1137, _, rfl, rfl⟩
theorem my_X12_gcd : q_cy yX12_gcd cX12_gcd 5 (some .int) 2 := ⟨w1141, w11, by decide +kernel, by decide +kernel, by decide +kernel⟩
theorem my_X12_meet : q_cy yX12_meet cX12_meet 5 (some .int) 3 := ⟨w1145, w11, by decide +kernel, by decide +kernel, by decide +kernel⟩
theorem mv_X12_meet : q_cyV yX12_meet 10 := ⟨w1143, w1144, _, rfl, rfl⟩
theorem my_X12_lights : q_cy yX12_lights cX12_lights 6 (some .int) 3 := ⟨w1149, w11, by decide +kernel, by decide +kernel, by decide +kernel⟩
theorem mv_X12_lights : q_cyV yX12_lights 10 := ⟨w1147, w1148, _, rfl, rfl⟩
theorem my_X12_areCars : q_cy yX12_areCars cX12_areCars 3 (some .boolean) 1 := ⟨w1152, w11, by decide +kernel, by decide +kernel, by decide +kernel⟩
theorem mv_X12_areCars : q_cyV yX12_areCars 10 := ⟨w1151, w1313, _, rfl, rfl⟩
theorem my_X12_waitsBy : q_cy yX12_waitsBy cX12_waitsBy 8 (some .int) 3 := ⟨w1155, w11, by decide +kernel, by decide +kernel, by decide +kernel⟩
theorem mv_X12_waitsBy : q_cyV yX12_waitsBy 10 := ⟨w1154, w1314, _, rfl, rfl⟩
theorem my_X12_isGreen : q_cy yX12_isGreen cX12_isGreen 5 (some .boolean) 4 := ⟨w1158, w11, by decide +kernel, by decide +kernel, by decide +kernel⟩
theorem my_X12_believed : q_cy yX12_believed cX12_believed 3 (some .int) 2 := ⟨w1162, w11, by decide +kernel, by decide +kernel, by decide +kernel⟩
theorem mv_X12_believed : q_cyV yX12_believed 10 := ⟨w1160, w1161, _, rfl, rfl⟩
theorem my_X12_believedAt : q_cy yX12_believedAt cX12_believedAt 8 (some .int) 3 := ⟨w1165, w11, by decide +kernel, by decide +kernel, by decide +kernel⟩
theorem mv_X12_believedAt : q_cyV yX12_believedAt 10 := ⟨w1164, w1315, _, rfl, rfl⟩
theorem my_X12_plain : q_cy yX12_plain cX12_plain 4 (some .int) 3 := ⟨w1168, w11, by decide +kernel, by decide +kernel, by decide +kernel⟩
theorem mv_X12_plain : q_cyV yX12_plain 10 := ⟨w1167, w1316, _, rfl, rfl⟩
theorem my_X12_lost : q_cy yX12_lost cX12_lost 3 (some .int) 2 := ⟨w1172, w11, by decide +kernel, by decide +kernel, by decide +kernel⟩
theorem mv_X12_lost : q_cyV yX12_lost 10 := ⟨w1170, w1171, _, rfl, rfl⟩
theorem my_X12_lostBut : q_cy yX12_lostBut cX12_lostBut 7 (some .int) 4 := ⟨w1175, w11, by decide +kernel, by decide +kernel, by decide +kernel⟩
theorem mv_X12_lostBut : q_cyV yX12_lostBut 10 := ⟨w1174, w1317, _, rfl, rfl⟩
theorem my_X12_isLost : q_cy yX12_isLost cX12_isLost 4 (some .boolean) 3 := ⟨w1178, w11, by decide +kernel, by decide +kernel, by decide +kernel⟩
theorem mv_X12_isLost : q_cyV yX12_isLost 10 := ⟨w1177, w1318, _, rfl, rfl⟩
theorem my_X12_burnFirst : q_cy yX12_burnFirst cX12_burnFirst 9 (some .int) 4 := ⟨w1182, w11, by decide +kernel, by decide +kernel, by decide +kernel⟩
theorem mv_X12_burnFirst : q_cyV yX12_burnFirst 10 := ⟨w1180, w1181, _, rfl, rfl⟩
theorem my_X12_renewed : q_cy yX12_renewed cX12_renewed 4 (some .int) 3 := ⟨w1186, w11, by decide +kernel, by decide +kernel, by decide +kernel⟩
theorem mv_X12_renewed : q_cyV yX12_renewed 10 := ⟨w1184, w1185, _, rfl, rfl⟩
theorem my_X12_laysWear : q_cy yX12_laysWear cX12_laysWear 6 none 2 := ⟨w1189, w11, by decide +kernel, by decide +kernel, by decide +kernel⟩
theorem mv_X12_laysWear : q_cyV yX12_laysWear 10 := ⟨w1188, w1319, _, rfl, rfl⟩
theorem my_X12_wearFrom : q_cy yX12_wearFrom cX12_wearFrom 3 (some .int) 2 := ⟨w1192, w11, by decide +kernel, by decide +kernel, by decide +kernel⟩
theorem mv_X12_wearFrom : q_cyV yX12_wearFrom 10 := ⟨w1191, w1320, _, rfl, rfl⟩
theorem my_X12_wearIn : q_cy yX12_wearIn cX12_wearIn 5 (some .int) 2 := ⟨w1196, w11, by decide +kernel, by decide +kernel, by decide +kernel⟩
theorem mv_X12_wearIn : q_cyV yX12_wearIn 10 := ⟨w1195, w1321, _, rfl, rfl⟩
theorem my_X12_who : q_cy yX12_who cX12_who 5 (some .int) 1 := ⟨w1200, w11, by decide +kernel, by decide +kernel, by decide +kernel⟩
theorem mv_X12_who : q_cyV yX12_who 10 := ⟨w1198, w1199, _, rfl, rfl⟩
theorem my_X12_couldBe : q_cy yX12_couldBe cX12_couldBe 6 (some .boolean) 2 := ⟨w1203, w11, by decide +kernel, by decide +kernel, by decide +kernel⟩
theorem mv_X12_couldBe : q_cyV yX12_couldBe 10 := ⟨w1202, w1322, _, rfl, rfl⟩
theorem my_X12_keep : q_cy yX12_keep cX12_keep 1 (some .int) 0 := ⟨w1207, w11, by decide +kernel, by decide +kernel, by decide +kernel⟩
theorem mv_X12_keep : q_cyV yX12_keep 10 := ⟨w1205, w1206, _, rfl, rfl⟩
theorem my_X12_undo : q_cy yX12_undo cX12_undo 1 (some .boolean) 0 := ⟨w1211, w11, by decide +kernel, by decide +kernel, by decide +kernel⟩
theorem mv_X12_undo : q_cyV yX12_undo 10 := ⟨w1209, w1210, _, rfl, rfl⟩
theorem my_X12_check : q_cy yX12_check cX12_check 3 (some .int) 1 := ⟨w1215, w11, by decide +kernel, by decide +kernel, by decide +kernel⟩
theorem mv_X12_check : q_cyV yX12_check 10 := ⟨w1213, w1214, _, rfl, rfl⟩
theorem my_X12_count : q_cy yX12_count cX12_count 2 (some .int) 1 := ⟨w1219, w11, by decide +kernel, by decide +kernel, by decide +kernel⟩
theorem mv_X12_count : q_cyV yX12_count 10 := ⟨w1217, w1218, _, rfl, rfl⟩
theorem nw_0 : (Jvm.Cond.methodLinkNest "WhiteLine" (19 : Nat) ({ cls := "WhiteLine$RowReader", name := "<init>", desc := "()V" } : Jvm.MethodName) "WhiteLine") ∈ lw_tbl := by
  have h : (Jvm.Cond.methodLinkNest "WhiteLine" (19 : Nat) ({ cls := "WhiteLine$RowReader", name := "<init>", desc := "()V" } : Jvm.MethodName) "WhiteLine") ∈ tables_1_1 := List.mem_of_getElem? (i := 26) rfl
  exact List.mem_append_right _ (show _ ∈ tables_1 from List.mem_append_left _ h)
theorem nw_1 : (Jvm.Cond.fieldLinkNest "WhiteLine$RowReader" (15 : Nat) "WhiteLine" "NO_TEXT" "[I" "WhiteLine") ∈ lw_tbl := by
  have h : (Jvm.Cond.fieldLinkNest "WhiteLine$RowReader" (15 : Nat) "WhiteLine" "NO_TEXT" "[I" "WhiteLine") ∈ tables_1_1 := List.mem_of_getElem? (i := 30) rfl
  exact List.mem_append_right _ (show _ ∈ tables_1 from List.mem_append_left _ h)
theorem nw_2 : (Jvm.Cond.methodLinkNest "WhiteLine" (26 : Nat) ({ cls := "WhiteLine$LawReader", name := "<init>", desc := "()V" } : Jvm.MethodName) "WhiteLine") ∈ lw_tbl := by
  have h : (Jvm.Cond.methodLinkNest "WhiteLine" (26 : Nat) ({ cls := "WhiteLine$LawReader", name := "<init>", desc := "()V" } : Jvm.MethodName) "WhiteLine") ∈ tables_1_1 := List.mem_of_getElem? (i := 54) rfl
  exact List.mem_append_right _ (show _ ∈ tables_1 from List.mem_append_left _ h)
theorem nw_3 : (Jvm.Cond.fieldLinkNest "WhiteLine$LawReader" (9 : Nat) "WhiteLine" "NO_TEXT" "[I" "WhiteLine") ∈ lw_tbl := by
  have h : (Jvm.Cond.fieldLinkNest "WhiteLine$LawReader" (9 : Nat) "WhiteLine" "NO_TEXT" "[I" "WhiteLine") ∈ tables_1_1 := List.mem_of_getElem? (i := 58) rfl
  exact List.mem_append_right _ (show _ ∈ tables_1 from List.mem_append_left _ h)
theorem nw_4 : (Jvm.Cond.methodLinkNest "WhiteLine$LawReader" (30 : Nat) ({ cls := "WhiteLine$Law", name := "<init>", desc := "()V" } : Jvm.MethodName) "WhiteLine") ∈ lw_tbl := by
  have h : (Jvm.Cond.methodLinkNest "WhiteLine$LawReader" (30 : Nat) ({ cls := "WhiteLine$Law", name := "<init>", desc := "()V" } : Jvm.MethodName) "WhiteLine") ∈ tables_1_1 := List.mem_of_getElem? (i := 61) rfl
  exact List.mem_append_right _ (show _ ∈ tables_1 from List.mem_append_left _ h)
theorem nw_5 : (Jvm.Cond.methodLinkNest "WhiteLine" (33 : Nat) ({ cls := "WhiteLine$Law", name := "<init>", desc := "()V" } : Jvm.MethodName) "WhiteLine") ∈ lw_tbl := by
  have h : (Jvm.Cond.methodLinkNest "WhiteLine" (33 : Nat) ({ cls := "WhiteLine$Law", name := "<init>", desc := "()V" } : Jvm.MethodName) "WhiteLine") ∈ tables_1_1 := List.mem_of_getElem? (i := 134) rfl
  exact List.mem_append_right _ (show _ ∈ tables_1 from List.mem_append_left _ h)
theorem nw_6 : (Jvm.Cond.methodLinkNest "WhiteLine" (57 : Nat) ({ cls := "WhiteLine$Plan", name := "<init>", desc := "()V" } : Jvm.MethodName) "WhiteLine") ∈ lw_tbl := by
  have h : (Jvm.Cond.methodLinkNest "WhiteLine" (57 : Nat) ({ cls := "WhiteLine$Plan", name := "<init>", desc := "()V" } : Jvm.MethodName) "WhiteLine") ∈ tables_1_2 := List.mem_of_getElem? (i := 15) rfl
  exact List.mem_append_right _ (show _ ∈ tables_1 from List.mem_append_right _ (List.mem_append_left _ h))
theorem nw_7 : (Jvm.Cond.methodLinkNest "WhiteLine" (64 : Nat) ({ cls := "WhiteLine$Fit", name := "<init>", desc := "()V" } : Jvm.MethodName) "WhiteLine") ∈ lw_tbl := by
  have h : (Jvm.Cond.methodLinkNest "WhiteLine" (64 : Nat) ({ cls := "WhiteLine$Fit", name := "<init>", desc := "()V" } : Jvm.MethodName) "WhiteLine") ∈ tables_1_2 := List.mem_of_getElem? (i := 47) rfl
  exact List.mem_append_right _ (show _ ∈ tables_1 from List.mem_append_right _ (List.mem_append_left _ h))
theorem nw_8 : (Jvm.Cond.methodLinkNest "WhiteLine" (71 : Nat) ({ cls := "WhiteLine$Driver", name := "<init>", desc := "()V" } : Jvm.MethodName) "WhiteLine") ∈ lw_tbl := by
  have h : (Jvm.Cond.methodLinkNest "WhiteLine" (71 : Nat) ({ cls := "WhiteLine$Driver", name := "<init>", desc := "()V" } : Jvm.MethodName) "WhiteLine") ∈ tables_1_2 := List.mem_of_getElem? (i := 70) rfl
  exact List.mem_append_right _ (show _ ∈ tables_1 from List.mem_append_right _ (List.mem_append_left _ h))
theorem nw_9 : (Jvm.Cond.methodLinkNest "WhiteLine" (78 : Nat) ({ cls := "WhiteLine$Stretches", name := "<init>", desc := "()V" } : Jvm.MethodName) "WhiteLine") ∈ lw_tbl := by
  have h : (Jvm.Cond.methodLinkNest "WhiteLine" (78 : Nat) ({ cls := "WhiteLine$Stretches", name := "<init>", desc := "()V" } : Jvm.MethodName) "WhiteLine") ∈ tables_1_2 := List.mem_of_getElem? (i := 92) rfl
  exact List.mem_append_right _ (show _ ∈ tables_1 from List.mem_append_right _ (List.mem_append_left _ h))
theorem nw_10 : (Jvm.Cond.methodLinkNest "WhiteLine" (85 : Nat) ({ cls := "WhiteLine$Lane", name := "<init>", desc := "()V" } : Jvm.MethodName) "WhiteLine") ∈ lw_tbl := by
  have h : (Jvm.Cond.methodLinkNest "WhiteLine" (85 : Nat) ({ cls := "WhiteLine$Lane", name := "<init>", desc := "()V" } : Jvm.MethodName) "WhiteLine") ∈ tables_1_2 := List.mem_of_getElem? (i := 108) rfl
  exact List.mem_append_right _ (show _ ∈ tables_1 from List.mem_append_right _ (List.mem_append_left _ h))
theorem nw_11 : (Jvm.Cond.methodLinkNest "WhiteLine$RowReader" (58 : Nat) ({ cls := "WhiteLine", name := "isIn", desc := "(III)Z" } : Jvm.MethodName) "WhiteLine") ∈ lw_tbl := by
  have h : (Jvm.Cond.methodLinkNest "WhiteLine$RowReader" (58 : Nat) ({ cls := "WhiteLine", name := "isIn", desc := "(III)Z" } : Jvm.MethodName) "WhiteLine") ∈ tables_1_2 := List.mem_of_getElem? (i := 199) rfl
  exact List.mem_append_right _ (show _ ∈ tables_1 from List.mem_append_right _ (List.mem_append_left _ h))
theorem nw_12 : (Jvm.Cond.methodLinkNest "WhiteLine$LawReader" (95 : Nat) ({ cls := "WhiteLine", name := "isIn", desc := "(III)Z" } : Jvm.MethodName) "WhiteLine") ∈ lw_tbl := by
  have h : (Jvm.Cond.methodLinkNest "WhiteLine$LawReader" (95 : Nat) ({ cls := "WhiteLine", name := "isIn", desc := "(III)Z" } : Jvm.MethodName) "WhiteLine") ∈ tables_1_3 := List.mem_of_getElem? (i := 51) rfl
  exact List.mem_append_right _ (show _ ∈ tables_1 from List.mem_append_right _ (List.mem_append_right _ (List.mem_append_left _ h)))
theorem nw_13 : (Jvm.Cond.methodLinkNest "WhiteLine$Law" (70 : Nat) ({ cls := "WhiteLine", name := "heldIn", desc := "(III)I" } : Jvm.MethodName) "WhiteLine") ∈ lw_tbl := by
  have h : (Jvm.Cond.methodLinkNest "WhiteLine$Law" (70 : Nat) ({ cls := "WhiteLine", name := "heldIn", desc := "(III)I" } : Jvm.MethodName) "WhiteLine") ∈ tables_1_3 := List.mem_of_getElem? (i := 182) rfl
  exact List.mem_append_right _ (show _ ∈ tables_1 from List.mem_append_right _ (List.mem_append_right _ (List.mem_append_left _ h)))
theorem nw_14 : (Jvm.Cond.methodLinkNest "WhiteLine$Road" (92 : Nat) ({ cls := "WhiteLine", name := "heldIn", desc := "(III)I" } : Jvm.MethodName) "WhiteLine") ∈ lw_tbl := by
  have h : (Jvm.Cond.methodLinkNest "WhiteLine$Road" (92 : Nat) ({ cls := "WhiteLine", name := "heldIn", desc := "(III)I" } : Jvm.MethodName) "WhiteLine") ∈ tables_1_3 := List.mem_of_getElem? (i := 195) rfl
  exact List.mem_append_right _ (show _ ∈ tables_1 from List.mem_append_right _ (List.mem_append_right _ (List.mem_append_left _ h)))
theorem nw_15 : (Jvm.Cond.methodLinkNest "WhiteLine$Fit" (56 : Nat) ({ cls := "WhiteLine", name := "heldIn", desc := "(III)I" } : Jvm.MethodName) "WhiteLine") ∈ lw_tbl := by
  have h : (Jvm.Cond.methodLinkNest "WhiteLine$Fit" (56 : Nat) ({ cls := "WhiteLine", name := "heldIn", desc := "(III)I" } : Jvm.MethodName) "WhiteLine") ∈ tables_1_4 := List.mem_of_getElem? (i := 19) rfl
  exact List.mem_append_right _ (show _ ∈ tables_1 from List.mem_append_right _ (List.mem_append_right _ (List.mem_append_right _ (List.mem_append_left _ h))))
theorem nw_16 : (Jvm.Cond.methodLinkNest "WhiteLine$Lane" (25 : Nat) ({ cls := "WhiteLine", name := "isIn", desc := "(III)Z" } : Jvm.MethodName) "WhiteLine") ∈ lw_tbl := by
  have h : (Jvm.Cond.methodLinkNest "WhiteLine$Lane" (25 : Nat) ({ cls := "WhiteLine", name := "isIn", desc := "(III)Z" } : Jvm.MethodName) "WhiteLine") ∈ tables_1_4 := List.mem_of_getElem? (i := 142) rfl
  exact List.mem_append_right _ (show _ ∈ tables_1 from List.mem_append_right _ (List.mem_append_right _ (List.mem_append_right _ (List.mem_append_left _ h))))
theorem nw_17 : (Jvm.Cond.methodLinkNest "WhiteLine$Driver" (102 : Nat) ({ cls := "WhiteLine", name := "isIn", desc := "(III)Z" } : Jvm.MethodName) "WhiteLine") ∈ lw_tbl := by
  have h : (Jvm.Cond.methodLinkNest "WhiteLine$Driver" (102 : Nat) ({ cls := "WhiteLine", name := "isIn", desc := "(III)Z" } : Jvm.MethodName) "WhiteLine") ∈ tables_1_4 := List.mem_of_getElem? (i := 225) rfl
  exact List.mem_append_right _ (show _ ∈ tables_1 from List.mem_append_right _ (List.mem_append_right _ (List.mem_append_right _ (List.mem_append_left _ h))))
theorem kb_m100 : (Int8.ofInt (-100)).toInt32 = (-100 : Int32) := by decide +kernel
theorem kb_m99 : (Int8.ofInt (-99)).toInt32 = (-99 : Int32) := by decide +kernel
theorem kb_m30 : (Int8.ofInt (-30)).toInt32 = (-30 : Int32) := by decide +kernel
theorem kb_m20 : (Int8.ofInt (-20)).toInt32 = (-20 : Int32) := by decide +kernel
theorem kb_m2 : (Int8.ofInt (-2)).toInt32 = (-2 : Int32) := by decide +kernel
theorem kb_6 : (Int8.ofInt 6).toInt32 = (6 : Int32) := by decide +kernel
theorem kb_7 : (Int8.ofInt 7).toInt32 = (7 : Int32) := by decide +kernel
theorem kb_8 : (Int8.ofInt 8).toInt32 = (8 : Int32) := by decide +kernel
theorem kb_9 : (Int8.ofInt 9).toInt32 = (9 : Int32) := by decide +kernel
theorem kb_10 : (Int8.ofInt 10).toInt32 = (10 : Int32) := by decide +kernel
theorem kb_11 : (Int8.ofInt 11).toInt32 = (11 : Int32) := by decide +kernel
theorem kb_12 : (Int8.ofInt 12).toInt32 = (12 : Int32) := by decide +kernel
theorem kb_13 : (Int8.ofInt 13).toInt32 = (13 : Int32) := by decide +kernel
theorem kb_14 : (Int8.ofInt 14).toInt32 = (14 : Int32) := by decide +kernel
theorem kb_16 : (Int8.ofInt 16).toInt32 = (16 : Int32) := by decide +kernel
theorem kb_20 : (Int8.ofInt 20).toInt32 = (20 : Int32) := by decide +kernel
theorem kb_21 : (Int8.ofInt 21).toInt32 = (21 : Int32) := by decide +kernel
theorem kb_24 : (Int8.ofInt 24).toInt32 = (24 : Int32) := by decide +kernel
theorem kb_30 : (Int8.ofInt 30).toInt32 = (30 : Int32) := by decide +kernel
theorem kb_32 : (Int8.ofInt 32).toInt32 = (32 : Int32) := by decide +kernel
theorem kb_33 : (Int8.ofInt 33).toInt32 = (33 : Int32) := by decide +kernel
theorem kb_37 : (Int8.ofInt 37).toInt32 = (37 : Int32) := by decide +kernel
theorem kb_38 : (Int8.ofInt 38).toInt32 = (38 : Int32) := by decide +kernel
theorem kb_40 : (Int8.ofInt 40).toInt32 = (40 : Int32) := by decide +kernel
theorem kb_41 : (Int8.ofInt 41).toInt32 = (41 : Int32) := by decide +kernel
theorem kb_42 : (Int8.ofInt 42).toInt32 = (42 : Int32) := by decide +kernel
theorem kb_43 : (Int8.ofInt 43).toInt32 = (43 : Int32) := by decide +kernel
theorem kb_44 : (Int8.ofInt 44).toInt32 = (44 : Int32) := by decide +kernel
theorem kb_45 : (Int8.ofInt 45).toInt32 = (45 : Int32) := by decide +kernel
theorem kb_47 : (Int8.ofInt 47).toInt32 = (47 : Int32) := by decide +kernel
theorem kb_48 : (Int8.ofInt 48).toInt32 = (48 : Int32) := by decide +kernel
theorem kb_50 : (Int8.ofInt 50).toInt32 = (50 : Int32) := by decide +kernel
theorem kb_57 : (Int8.ofInt 57).toInt32 = (57 : Int32) := by decide +kernel
theorem kb_59 : (Int8.ofInt 59).toInt32 = (59 : Int32) := by decide +kernel
theorem kb_60 : (Int8.ofInt 60).toInt32 = (60 : Int32) := by decide +kernel
theorem kb_61 : (Int8.ofInt 61).toInt32 = (61 : Int32) := by decide +kernel
theorem kb_62 : (Int8.ofInt 62).toInt32 = (62 : Int32) := by decide +kernel
theorem kb_63 : (Int8.ofInt 63).toInt32 = (63 : Int32) := by decide +kernel
theorem kb_64 : (Int8.ofInt 64).toInt32 = (64 : Int32) := by decide +kernel
theorem kb_65 : (Int8.ofInt 65).toInt32 = (65 : Int32) := by decide +kernel
theorem kb_91 : (Int8.ofInt 91).toInt32 = (91 : Int32) := by decide +kernel
theorem kb_93 : (Int8.ofInt 93).toInt32 = (93 : Int32) := by decide +kernel
theorem kb_99 : (Int8.ofInt 99).toInt32 = (99 : Int32) := by decide +kernel
theorem kb_100 : (Int8.ofInt 100).toInt32 = (100 : Int32) := by decide +kernel
theorem kb_101 : (Int8.ofInt 101).toInt32 = (101 : Int32) := by decide +kernel
theorem kb_105 : (Int8.ofInt 105).toInt32 = (105 : Int32) := by decide +kernel
theorem kb_108 : (Int8.ofInt 108).toInt32 = (108 : Int32) := by decide +kernel
theorem kb_111 : (Int8.ofInt 111).toInt32 = (111 : Int32) := by decide +kernel
theorem kb_112 : (Int8.ofInt 112).toInt32 = (112 : Int32) := by decide +kernel
theorem kb_115 : (Int8.ofInt 115).toInt32 = (115 : Int32) := by decide +kernel
theorem kb_116 : (Int8.ofInt 116).toInt32 = (116 : Int32) := by decide +kernel
theorem kb_120 : (Int8.ofInt 120).toInt32 = (120 : Int32) := by decide +kernel
theorem kb_124 : (Int8.ofInt 124).toInt32 = (124 : Int32) := by decide +kernel
theorem ki_m1 : Int32.ofInt (-1) = (-1 : Int32) := by decide +kernel
theorem ki_0 : Int32.ofInt 0 = (0 : Int32) := by decide +kernel
theorem ki_1 : Int32.ofInt 1 = (1 : Int32) := by decide +kernel
theorem ki_2 : Int32.ofInt 2 = (2 : Int32) := by decide +kernel
theorem ki_3 : Int32.ofInt 3 = (3 : Int32) := by decide +kernel
theorem ki_4 : Int32.ofInt 4 = (4 : Int32) := by decide +kernel
theorem ki_5 : Int32.ofInt 5 = (5 : Int32) := by decide +kernel
theorem ks_m1000 : (Int16.ofInt (-1000)).toInt32 = (-1000 : Int32) := by decide +kernel
theorem ks_128 : (Int16.ofInt 128).toInt32 = (128 : Int32) := by decide +kernel
theorem ks_192 : (Int16.ofInt 192).toInt32 = (192 : Int32) := by decide +kernel
theorem ks_240 : (Int16.ofInt 240).toInt32 = (240 : Int32) := by decide +kernel
theorem ks_255 : (Int16.ofInt 255).toInt32 = (255 : Int32) := by decide +kernel
theorem ks_256 : (Int16.ofInt 256).toInt32 = (256 : Int32) := by decide +kernel
theorem ks_260 : (Int16.ofInt 260).toInt32 = (260 : Int32) := by decide +kernel
theorem ks_320 : (Int16.ofInt 320).toInt32 = (320 : Int32) := by decide +kernel
theorem ks_325 : (Int16.ofInt 325).toInt32 = (325 : Int32) := by decide +kernel
theorem ks_384 : (Int16.ofInt 384).toInt32 = (384 : Int32) := by decide +kernel
theorem ks_448 : (Int16.ofInt 448).toInt32 = (448 : Int32) := by decide +kernel
theorem ks_512 : (Int16.ofInt 512).toInt32 = (512 : Int32) := by decide +kernel
theorem ks_513 : (Int16.ofInt 513).toInt32 = (513 : Int32) := by decide +kernel
theorem ks_514 : (Int16.ofInt 514).toInt32 = (514 : Int32) := by decide +kernel
theorem ks_515 : (Int16.ofInt 515).toInt32 = (515 : Int32) := by decide +kernel
theorem ks_516 : (Int16.ofInt 516).toInt32 = (516 : Int32) := by decide +kernel
theorem ks_518 : (Int16.ofInt 518).toInt32 = (518 : Int32) := by decide +kernel
theorem ks_519 : (Int16.ofInt 519).toInt32 = (519 : Int32) := by decide +kernel
theorem ks_520 : (Int16.ofInt 520).toInt32 = (520 : Int32) := by decide +kernel
theorem ks_521 : (Int16.ofInt 521).toInt32 = (521 : Int32) := by decide +kernel
theorem ks_522 : (Int16.ofInt 522).toInt32 = (522 : Int32) := by decide +kernel
theorem ks_524 : (Int16.ofInt 524).toInt32 = (524 : Int32) := by decide +kernel
theorem ks_525 : (Int16.ofInt 525).toInt32 = (525 : Int32) := by decide +kernel
theorem ks_537 : (Int16.ofInt 537).toInt32 = (537 : Int32) := by decide +kernel
theorem ks_549 : (Int16.ofInt 549).toInt32 = (549 : Int32) := by decide +kernel
theorem ks_600 : (Int16.ofInt 600).toInt32 = (600 : Int32) := by decide +kernel
theorem ks_3904 : (Int16.ofInt 3904).toInt32 = (3904 : Int32) := by decide +kernel
theorem ks_9999 : (Int16.ofInt 9999).toInt32 = (9999 : Int32) := by decide +kernel
theorem tl_m1000000000 : (-1000000000 : Int32).toInt = -1000000000 := by decide +kernel
theorem rl_m1000000000 : q_r (-1000000000) (-1000000000) (-1000000000) := q_lit tl_m1000000000
theorem tl_m1000 : (-1000 : Int32).toInt = -1000 := by decide +kernel
theorem rl_m1000 : q_r (-1000) (-1000) (-1000) := q_lit tl_m1000
theorem tl_m100 : (-100 : Int32).toInt = -100 := by decide +kernel
theorem rl_m100 : q_r (-100) (-100) (-100) := q_lit tl_m100
theorem tl_m99 : (-99 : Int32).toInt = -99 := by decide +kernel
theorem rl_m99 : q_r (-99) (-99) (-99) := q_lit tl_m99
theorem tl_m30 : (-30 : Int32).toInt = -30 := by decide +kernel
theorem rl_m30 : q_r (-30) (-30) (-30) := q_lit tl_m30
theorem tl_m20 : (-20 : Int32).toInt = -20 := by decide +kernel
theorem rl_m20 : q_r (-20) (-20) (-20) := q_lit tl_m20
theorem tl_m2 : (-2 : Int32).toInt = -2 := by decide +kernel
theorem rl_m2 : q_r (-2) (-2) (-2) := q_lit tl_m2
theorem tl_m1 : (-1 : Int32).toInt = -1 := by decide +kernel
theorem rl_m1 : q_r (-1) (-1) (-1) := q_lit tl_m1
theorem tl_0 : (0 : Int32).toInt = 0 := by decide +kernel
theorem rl_0 : q_r (0) 0 0 := q_lit tl_0
theorem tl_1 : (1 : Int32).toInt = 1 := by decide +kernel
theorem rl_1 : q_r (1) 1 1 := q_lit tl_1
theorem tl_2 : (2 : Int32).toInt = 2 := by decide +kernel
theorem rl_2 : q_r (2) 2 2 := q_lit tl_2
theorem tl_3 : (3 : Int32).toInt = 3 := by decide +kernel
theorem rl_3 : q_r (3) 3 3 := q_lit tl_3
theorem tl_4 : (4 : Int32).toInt = 4 := by decide +kernel
theorem rl_4 : q_r (4) 4 4 := q_lit tl_4
theorem tl_5 : (5 : Int32).toInt = 5 := by decide +kernel
theorem rl_5 : q_r (5) 5 5 := q_lit tl_5
theorem tl_6 : (6 : Int32).toInt = 6 := by decide +kernel
theorem rl_6 : q_r (6) 6 6 := q_lit tl_6
theorem tl_7 : (7 : Int32).toInt = 7 := by decide +kernel
theorem rl_7 : q_r (7) 7 7 := q_lit tl_7
theorem tl_8 : (8 : Int32).toInt = 8 := by decide +kernel
theorem rl_8 : q_r (8) 8 8 := q_lit tl_8
theorem tl_9 : (9 : Int32).toInt = 9 := by decide +kernel
theorem rl_9 : q_r (9) 9 9 := q_lit tl_9
theorem tl_10 : (10 : Int32).toInt = 10 := by decide +kernel
theorem rl_10 : q_r (10) 10 10 := q_lit tl_10
theorem tl_11 : (11 : Int32).toInt = 11 := by decide +kernel
theorem rl_11 : q_r (11) 11 11 := q_lit tl_11
theorem tl_12 : (12 : Int32).toInt = 12 := by decide +kernel
theorem rl_12 : q_r (12) 12 12 := q_lit tl_12
theorem tl_13 : (13 : Int32).toInt = 13 := by decide +kernel
theorem rl_13 : q_r (13) 13 13 := q_lit tl_13
theorem tl_14 : (14 : Int32).toInt = 14 := by decide +kernel
theorem rl_14 : q_r (14) 14 14 := q_lit tl_14
theorem tl_16 : (16 : Int32).toInt = 16 := by decide +kernel
theorem rl_16 : q_r (16) 16 16 := q_lit tl_16
theorem tl_20 : (20 : Int32).toInt = 20 := by decide +kernel
theorem rl_20 : q_r (20) 20 20 := q_lit tl_20
theorem tl_21 : (21 : Int32).toInt = 21 := by decide +kernel
theorem rl_21 : q_r (21) 21 21 := q_lit tl_21
theorem tl_24 : (24 : Int32).toInt = 24 := by decide +kernel
theorem rl_24 : q_r (24) 24 24 := q_lit tl_24
theorem tl_30 : (30 : Int32).toInt = 30 := by decide +kernel
theorem rl_30 : q_r (30) 30 30 := q_lit tl_30
theorem tl_32 : (32 : Int32).toInt = 32 := by decide +kernel
theorem rl_32 : q_r (32) 32 32 := q_lit tl_32
theorem tl_33 : (33 : Int32).toInt = 33 := by decide +kernel
theorem rl_33 : q_r (33) 33 33 := q_lit tl_33
theorem tl_37 : (37 : Int32).toInt = 37 := by decide +kernel
theorem rl_37 : q_r (37) 37 37 := q_lit tl_37
theorem tl_38 : (38 : Int32).toInt = 38 := by decide +kernel
theorem rl_38 : q_r (38) 38 38 := q_lit tl_38
theorem tl_40 : (40 : Int32).toInt = 40 := by decide +kernel
theorem rl_40 : q_r (40) 40 40 := q_lit tl_40
theorem tl_41 : (41 : Int32).toInt = 41 := by decide +kernel
theorem rl_41 : q_r (41) 41 41 := q_lit tl_41
theorem tl_42 : (42 : Int32).toInt = 42 := by decide +kernel
theorem rl_42 : q_r (42) 42 42 := q_lit tl_42
theorem tl_43 : (43 : Int32).toInt = 43 := by decide +kernel
theorem rl_43 : q_r (43) 43 43 := q_lit tl_43
theorem tl_44 : (44 : Int32).toInt = 44 := by decide +kernel
theorem rl_44 : q_r (44) 44 44 := q_lit tl_44
theorem tl_45 : (45 : Int32).toInt = 45 := by decide +kernel
theorem rl_45 : q_r (45) 45 45 := q_lit tl_45
theorem tl_47 : (47 : Int32).toInt = 47 := by decide +kernel
theorem rl_47 : q_r (47) 47 47 := q_lit tl_47
theorem tl_48 : (48 : Int32).toInt = 48 := by decide +kernel
theorem rl_48 : q_r (48) 48 48 := q_lit tl_48
theorem tl_50 : (50 : Int32).toInt = 50 := by decide +kernel
theorem rl_50 : q_r (50) 50 50 := q_lit tl_50
theorem tl_57 : (57 : Int32).toInt = 57 := by decide +kernel
theorem rl_57 : q_r (57) 57 57 := q_lit tl_57
theorem tl_59 : (59 : Int32).toInt = 59 := by decide +kernel
theorem rl_59 : q_r (59) 59 59 := q_lit tl_59
theorem tl_60 : (60 : Int32).toInt = 60 := by decide +kernel
theorem rl_60 : q_r (60) 60 60 := q_lit tl_60
theorem tl_61 : (61 : Int32).toInt = 61 := by decide +kernel
theorem rl_61 : q_r (61) 61 61 := q_lit tl_61
theorem tl_62 : (62 : Int32).toInt = 62 := by decide +kernel
theorem rl_62 : q_r (62) 62 62 := q_lit tl_62
theorem tl_63 : (63 : Int32).toInt = 63 := by decide +kernel
theorem rl_63 : q_r (63) 63 63 := q_lit tl_63
theorem tl_64 : (64 : Int32).toInt = 64 := by decide +kernel
theorem rl_64 : q_r (64) 64 64 := q_lit tl_64
theorem tl_65 : (65 : Int32).toInt = 65 := by decide +kernel
theorem rl_65 : q_r (65) 65 65 := q_lit tl_65
theorem tl_91 : (91 : Int32).toInt = 91 := by decide +kernel
theorem rl_91 : q_r (91) 91 91 := q_lit tl_91
theorem tl_93 : (93 : Int32).toInt = 93 := by decide +kernel
theorem rl_93 : q_r (93) 93 93 := q_lit tl_93
theorem tl_99 : (99 : Int32).toInt = 99 := by decide +kernel
theorem rl_99 : q_r (99) 99 99 := q_lit tl_99
theorem tl_100 : (100 : Int32).toInt = 100 := by decide +kernel
theorem rl_100 : q_r (100) 100 100 := q_lit tl_100
theorem tl_101 : (101 : Int32).toInt = 101 := by decide +kernel
theorem rl_101 : q_r (101) 101 101 := q_lit tl_101
theorem tl_105 : (105 : Int32).toInt = 105 := by decide +kernel
theorem rl_105 : q_r (105) 105 105 := q_lit tl_105
theorem tl_108 : (108 : Int32).toInt = 108 := by decide +kernel
theorem rl_108 : q_r (108) 108 108 := q_lit tl_108
theorem tl_111 : (111 : Int32).toInt = 111 := by decide +kernel
theorem rl_111 : q_r (111) 111 111 := q_lit tl_111
theorem tl_112 : (112 : Int32).toInt = 112 := by decide +kernel
theorem rl_112 : q_r (112) 112 112 := q_lit tl_112
theorem tl_115 : (115 : Int32).toInt = 115 := by decide +kernel
theorem rl_115 : q_r (115) 115 115 := q_lit tl_115
theorem tl_116 : (116 : Int32).toInt = 116 := by decide +kernel
theorem rl_116 : q_r (116) 116 116 := q_lit tl_116
theorem tl_120 : (120 : Int32).toInt = 120 := by decide +kernel
theorem rl_120 : q_r (120) 120 120 := q_lit tl_120
theorem tl_124 : (124 : Int32).toInt = 124 := by decide +kernel
theorem rl_124 : q_r (124) 124 124 := q_lit tl_124
theorem tl_128 : (128 : Int32).toInt = 128 := by decide +kernel
theorem rl_128 : q_r (128) 128 128 := q_lit tl_128
theorem tl_192 : (192 : Int32).toInt = 192 := by decide +kernel
theorem rl_192 : q_r (192) 192 192 := q_lit tl_192
theorem tl_240 : (240 : Int32).toInt = 240 := by decide +kernel
theorem rl_240 : q_r (240) 240 240 := q_lit tl_240
theorem tl_255 : (255 : Int32).toInt = 255 := by decide +kernel
theorem rl_255 : q_r (255) 255 255 := q_lit tl_255
theorem tl_256 : (256 : Int32).toInt = 256 := by decide +kernel
theorem rl_256 : q_r (256) 256 256 := q_lit tl_256
theorem tl_260 : (260 : Int32).toInt = 260 := by decide +kernel
theorem rl_260 : q_r (260) 260 260 := q_lit tl_260
theorem tl_320 : (320 : Int32).toInt = 320 := by decide +kernel
theorem rl_320 : q_r (320) 320 320 := q_lit tl_320
theorem tl_325 : (325 : Int32).toInt = 325 := by decide +kernel
theorem rl_325 : q_r (325) 325 325 := q_lit tl_325
theorem tl_384 : (384 : Int32).toInt = 384 := by decide +kernel
theorem rl_384 : q_r (384) 384 384 := q_lit tl_384
theorem tl_448 : (448 : Int32).toInt = 448 := by decide +kernel
theorem rl_448 : q_r (448) 448 448 := q_lit tl_448
theorem tl_512 : (512 : Int32).toInt = 512 := by decide +kernel
theorem rl_512 : q_r (512) 512 512 := q_lit tl_512
theorem tl_513 : (513 : Int32).toInt = 513 := by decide +kernel
theorem rl_513 : q_r (513) 513 513 := q_lit tl_513
theorem tl_514 : (514 : Int32).toInt = 514 := by decide +kernel
theorem rl_514 : q_r (514) 514 514 := q_lit tl_514
theorem tl_515 : (515 : Int32).toInt = 515 := by decide +kernel
theorem rl_515 : q_r (515) 515 515 := q_lit tl_515
theorem tl_516 : (516 : Int32).toInt = 516 := by decide +kernel
theorem rl_516 : q_r (516) 516 516 := q_lit tl_516
theorem tl_518 : (518 : Int32).toInt = 518 := by decide +kernel
theorem rl_518 : q_r (518) 518 518 := q_lit tl_518
theorem tl_519 : (519 : Int32).toInt = 519 := by decide +kernel
theorem rl_519 : q_r (519) 519 519 := q_lit tl_519
theorem tl_520 : (520 : Int32).toInt = 520 := by decide +kernel
theorem rl_520 : q_r (520) 520 520 := q_lit tl_520
theorem tl_521 : (521 : Int32).toInt = 521 := by decide +kernel
theorem rl_521 : q_r (521) 521 521 := q_lit tl_521
theorem tl_522 : (522 : Int32).toInt = 522 := by decide +kernel
theorem rl_522 : q_r (522) 522 522 := q_lit tl_522
theorem tl_524 : (524 : Int32).toInt = 524 := by decide +kernel
theorem rl_524 : q_r (524) 524 524 := q_lit tl_524
theorem tl_525 : (525 : Int32).toInt = 525 := by decide +kernel
theorem rl_525 : q_r (525) 525 525 := q_lit tl_525
theorem tl_537 : (537 : Int32).toInt = 537 := by decide +kernel
theorem rl_537 : q_r (537) 537 537 := q_lit tl_537
theorem tl_549 : (549 : Int32).toInt = 549 := by decide +kernel
theorem rl_549 : q_r (549) 549 549 := q_lit tl_549
theorem tl_600 : (600 : Int32).toInt = 600 := by decide +kernel
theorem rl_600 : q_r (600) 600 600 := q_lit tl_600
theorem tl_3904 : (3904 : Int32).toInt = 3904 := by decide +kernel
theorem rl_3904 : q_r (3904) 3904 3904 := q_lit tl_3904
theorem tl_9999 : (9999 : Int32).toInt = 9999 := by decide +kernel
theorem rl_9999 : q_r (9999) 9999 9999 := q_lit tl_9999
theorem tl_1000000 : (1000000 : Int32).toInt = 1000000 := by decide +kernel
theorem rl_1000000 : q_r (1000000) 1000000 1000000 := q_lit tl_1000000
theorem tl_1048576 : (1048576 : Int32).toInt = 1048576 := by decide +kernel
theorem rl_1048576 : q_r (1048576) 1048576 1048576 := q_lit tl_1048576
theorem tl_1000000000 : (1000000000 : Int32).toInt = 1000000000 := by decide +kernel
theorem rl_1000000000 : q_r (1000000000) 1000000000 1000000000 := q_lit tl_1000000000
