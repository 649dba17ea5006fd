import java.nio.charset.StandardCharsets;

/**
 * What the tests of the document's sentences share: the sentence that is looked at, with its promise,
 * is told with every answer that is not the one due.
 */
final class Checks {
    static final int NONE = MatroidDesk.NONE;
    /** No letters, or letters when only some of their bits are looked at. */
    static final int[] NO_LETTERS = {-1, -26, 26, 27, 32, 255, 256, 65536, Integer.MIN_VALUE, Integer.MAX_VALUE};
    /** The least and the greatest numbers, and such as become small when they are made shorter or multiplied. */
    static final int[] FAR_NUMBERS = {Integer.MIN_VALUE, Integer.MIN_VALUE + 1, -65536, -256, -13, -1, 65536, 1 << 24,
        1 << 28, 1 << 30, Integer.MAX_VALUE - 1, Integer.MAX_VALUE};

    private static String sentence = "";
    private static int wrong = 0;

    private Checks() {
    }

    /** From here on answers are due by this sentence. */
    static void says(int promise, String words) {
        sentence = "promise " + promise + ", \"" + words + "\": ";
    }

    static void due(String call, long got, long want) {
        if (got != want) {
            wrong++;
            System.out.println(sentence + call + " answered " + got + ", due is " + want);
        }
    }

    static void due(String call, String got, String want) {
        if (!got.equals(want)) {
            wrong++;
            System.out.println(sentence + call + " printed\n" + got + "due is\n" + want);
        }
    }

    static Desk after(String script) {
        Desk desk = new Desk();
        desk.run(script);
        return desk;
    }

    /** The script is refused at a place by a new object. */
    static void refused(String script, int place) {
        Desk desk = new Desk();
        due("run of " + script, desk.run(script), NONE);
        due("place behind " + script, desk.one().place(), place);
    }

    /** Of the script so many statements are done by a new object, and it ends for this reason. */
    static void ends(String script, int done, int why) {
        Desk desk = new Desk();
        due("run of " + script, desk.run(script), done);
        due("why behind " + script, desk.one().why(), why);
        due("place behind " + script, desk.one().place(), NONE);
    }

    /** The whole script is done by a new object, and prints this. */
    static void prints(String script, String text) {
        Desk desk = after(script);
        due("why behind " + script, desk.one().why(), 0);
        due(script, desk.product(), text);
    }

    /** A list of a matroid, by the calls count and member. */
    static void lists(Desk desk, int m, int kind, int... sets) {
        due("count(" + m + ", " + kind + ")", desk.one().count(m, kind), sets.length);
        for (int i = 0; i < sets.length; i++) {
            due("member(" + m + ", " + kind + ", " + i + ")", desk.one().member(m, kind, i), sets[i]);
        }
        due("member behind the last", desk.one().member(m, kind, sets.length), NONE);
    }

    static int endThrows(MatroidDesk desk, int n) {
        try {
            desk.end(n);
        } catch (IllegalArgumentException e) {
            return 1;
        }
        return 0;
    }

    static int blanksThrow(MatroidDesk desk) {
        int blanks = 0x20202020;
        try {
            desk.feed(blanks, blanks, blanks, blanks, blanks);
        } catch (IllegalStateException e) {
            return 1;
        }
        return 0;
    }

    /** Feeds a text, filled up with blanks to whole calls. */
    static void feedFilled(MatroidDesk desk, String text) {
        String blanks = " ".repeat((20 - text.length() % 20) % 20);
        Desk.feed(desk, (text + blanks).getBytes(StandardCharsets.ISO_8859_1));
    }

    static void finish() {
        System.exit(wrong == 0 ? 0 : 1);
    }
}
