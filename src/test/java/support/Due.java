import java.io.IOException;
import java.nio.file.Files;
import java.nio.file.Path;
import java.util.HashSet;
import java.util.Set;

/** Counts answers that are not the ones that are due, and ends a test. */
final class Due {
    private static int asked = 0;
    private static int wrong = 0;
    private static int sentences = 0;
    private static int askedOfSentence = 1;
    private static final int MOST_SHOWN = Integer.getInteger("whiteline.shown", 40);
    private static String sentence = "";
    private static final Set<String> TOLD = new HashSet<>();

    private Due() {
    }

    /** What is asked from now on belongs to these words of the document, and something must be. */
    static void sentence(String place, String words) {
        endSentence();
        sentences++;
        sentence = place + " '" + words + "': ";
        askedOfSentence = 0;
        if (!TOLD.add(sentence)) {
            fail(sentence + "has a test already");
        }
        String document = System.getProperty("whiteline.document");
        if (document != null && !textOf(document).contains(words)) {
            fail(sentence + "is not in the document");
        }
    }

    private static void endSentence() {
        if (askedOfSentence == 0) {
            fail(sentence + "nothing was asked");
        }
        sentence = "";
    }

    private static String textOf(String document) {
        try {
            return Files.readString(Path.of(document));
        } catch (IOException e) {
            return "";
        }
    }

    private static void fail(String why) {
        wrong++;
        if (wrong <= MOST_SHOWN) {
            System.out.println(why);
        }
    }

    static void is(String call, long want, long got) {
        asked++;
        askedOfSentence++;
        if (got != want) {
            fail(sentence + call + " answered " + got + ", due is " + want);
        }
    }

    static void is(String call, boolean want, boolean got) {
        is(call, want ? 1 : 0, got ? 1 : 0);
    }

    static void end(String test) {
        endSentence();
        String of = sentences > 0 ? " to " + sentences + " sentences" : "";
        System.out.println(test + ": " + asked + " answers" + of + ", " + wrong + " wrong");
        if (wrong != 0 || asked == 0) {
            System.exit(1);
        }
    }

    /** Feeds a text to an object whose tape is empty, padded with 'a', and answers its length. */
    static int feed(WhiteLine x, String text) {
        int[] bytes = new int[text.length()];
        for (int i = 0; i < bytes.length; i++) {
            bytes[i] = text.charAt(i);
        }
        return feed(x, bytes);
    }

    static int feed(WhiteLine x, int... bytes) {
        for (int at = 0; at < bytes.length; at += 20) {
            int[] words = new int[5];
            for (int k = 0; k < 20; k++) {
                int value = at + k < bytes.length ? bytes[at + k] : 'a';
                words[k / 4] = words[k / 4] << 8 | value & 255;
            }
            x.feed(words[0], words[1], words[2], words[3], words[4]);
        }
        return bytes.length;
    }

    static int law(WhiteLine x, String text) {
        return x.law(feed(x, text));
    }

    static int kerb(WhiteLine x, String text) {
        return x.row(0, feed(x, text));
    }

    static int height(WhiteLine x, String text) {
        return x.row(1, feed(x, text));
    }

    static int wear(WhiteLine x, String text) {
        return x.row(2, feed(x, text));
    }
}
