/** Counts answers that are not the ones that are due, and ends a test. */
final class Due {
    private static int asked = 0;
    private static int wrong = 0;

    private Due() {
    }

    static void is(String call, long want, long got) {
        asked++;
        if (got != want) {
            wrong++;
            if (wrong <= 40) {
                System.out.println(call + " answered " + got + ", due is " + want);
            }
        }
    }

    static void is(String call, boolean want, boolean got) {
        is(call, want ? 1 : 0, got ? 1 : 0);
    }

    static void end(String test) {
        System.out.println(test + ": " + asked + " answers, " + wrong + " wrong");
        if (wrong != 0 || asked == 0) {
            System.exit(1);
        }
    }

    /** Feeds a text to an object whose tape is empty, padded with 'a', and answers its length. */
    static int feed(WhiteLine x, String text) {
        int[] bytes = new int[text.length()];
        for (int i = 0; i < bytes.length; i++) {
            bytes[i] = text.charAt(i);
        }
        return feed(x, bytes);
    }

    static int feed(WhiteLine x, int... bytes) {
        for (int at = 0; at < bytes.length; at += 20) {
            int[] words = new int[5];
            for (int k = 0; k < 20; k++) {
                int value = at + k < bytes.length ? bytes[at + k] : 'a';
                words[k / 4] = words[k / 4] << 8 | value & 255;
            }
            x.feed(words[0], words[1], words[2], words[3], words[4]);
        }
        return bytes.length;
    }

    static int law(WhiteLine x, String text) {
        return x.law(feed(x, text));
    }

    static int kerb(WhiteLine x, String text) {
        return x.row(0, feed(x, text));
    }

    static int height(WhiteLine x, String text) {
        return x.row(1, feed(x, text));
    }

    static int wear(WhiteLine x, String text) {
        return x.row(2, feed(x, text));
    }
}
