import java.util.Random;

/** Random runs, from fixed seeds, of all calls, held against the model that tries everything out. */
public final class AgainstModelTest {
    private static final int CALLS = 512;

    public static void main(String[] args) {
        int seeds = args.length > 0 ? Integer.parseInt(args[0]) : 500;
        int from = args.length > 1 ? Integer.parseInt(args[1]) : 0;
        for (int seed = from; seed < from + seeds; seed++) {
            run(seed);
        }
        Due.end("AgainstModelTest");
    }

    private static void run(int seed) {
        Random random = new Random(seed);
        Pair pair = new Pair(random);
        if (seed % 4 != 0) {
            pair.road(8 + random.nextInt(seed % 4 == 1 ? 4 : 24));
        }
        for (int k = 0; k < 12; k++) {
            pair.change();
        }
        if (seed % 50 == 7) {
            pair.goToTheEnd();
        }
        while (pair.calls() < CALLS - 230 && pair.isRight()) {
            if (random.nextInt(3) == 0) {
                pair.change();
            } else {
                pair.ask();
            }
        }
        pair.askForAll();
    }
}
