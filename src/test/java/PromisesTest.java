import java.nio.charset.StandardCharsets;

/** Each promise with ordinary inputs, with the edges that the document names, and with wrong inputs. */
public final class PromisesTest {
    private static final int NONE = MatroidDesk.NONE;
    private static final int A = 0;
    private static final int B = 1;
    private static final int C = 2;
    private static final int D = 3;
    private static final int[] NO_LETTERS = {-1, 26, 1000, Integer.MIN_VALUE, Integer.MAX_VALUE, 25};
    private static int wrong = 0;

    public static void main(String[] args) {
        newObject();
        feedAndEnd();
        feedWhenFull();
        run();
        place();
        why();
        printedAndOut();
        elementsAndField();
        rank();
        countAndMember();
        tutte();
        weight();
        best();
        commonAndCover();
        sign();
        below();
        witness();
        twelveElements();
        System.exit(wrong == 0 ? 0 : 1);
    }

    private static void due(String call, long got, long want) {
        if (got != want) {
            wrong++;
            System.out.println(call + " answered " + got + ", due is " + want);
        }
    }

    private static void due(String call, String got, String want) {
        if (!got.equals(want)) {
            wrong++;
            System.out.println(call + " printed\n" + got + "due is\n" + want);
        }
    }

    private static Desk after(String script) {
        Desk desk = new Desk();
        desk.run(script);
        return desk;
    }

    // Promise 1
    private static void newObject() {
        due("NONE", NONE, -1);
        MatroidDesk desk = new MatroidDesk();
        for (int letter = 0; letter < 26; letter++) {
            due("elements of a new object", desk.elements(letter), NONE);
        }
        due("place of a new object", desk.place(), NONE);
        due("why of a new object", desk.why(), 0);
        due("printed of a new object", desk.printed(), 0);
        due("out of a new object", desk.out(0), NONE);
        due("end of a new object", desk.end(0), 0);
        due("run of a new object", desk.run(), 0);
    }

    // Promises 2 and 3
    private static void feedAndEnd() {
        MatroidDesk desk = new MatroidDesk();
        // "a=un" "ifor" "m 1 " "2;ra" "nk a"
        desk.feed(0x613d756e, 0x69666f72, 0x6d203120, 0x323b7261, 0x6e6b2061);
        desk.feed(0x3b202020, 0x20202020, 0x20202020, 0x20202020, 0x20202020);
        due("end(40)", desk.end(40), 40);
        due("end(21)", desk.end(21), 40);
        due("end(22) throws", endThrows(desk, 22), 1);
        due("end(-1) throws", endThrows(desk, -1), 1);
        due("end(MIN) throws", endThrows(desk, Integer.MIN_VALUE), 1);
        due("end(MAX) throws", endThrows(desk, Integer.MAX_VALUE), 1);
        due("end(21) after it threw", desk.end(21), 21);
        due("run of two statements", desk.run(), 2);
        due("end behind a run", desk.end(0), 0);
        due("end(1) behind a run throws", endThrows(desk, 1), 1);
        due("out(0)", desk.out(0), '1');
        desk.feed(-1, 0, 0, 0, 0);
        due("end cuts", desk.end(0), 20);
        due("run of what was cut", desk.run(), 0);
        desk.feed(0x3b000000, 0, 0, 0, 0);
        desk.end(1);
        desk.feed(0x3b000000, 0, 0, 0, 0);
        due("feed comes behind what was cut", desk.end(21), 21);
        due("bytes above 127 are refused", refusedAt(new byte[] {' ', (byte) 200}), 1);
    }

    private static int endThrows(MatroidDesk desk, int n) {
        try {
            desk.end(n);
        } catch (IllegalArgumentException e) {
            return 1;
        }
        return 0;
    }

    // An object is promised for fewer calls than it takes to fill it; still it must not take more bytes than it may.
    private static void feedWhenFull() {
        MatroidDesk desk = new MatroidDesk();
        for (int i = 0; i < 819; i++) {
            desk.feed(0x20202020, 0x20202020, 0x20202020, 0x20202020, 0x20202020);
        }
        due("feed beyond 16384 throws", feedThrows(desk), 1);
        due("end behind it", desk.end(16364), 16380);
        due("feed up to 16384", feedThrows(desk), 0);
        due("feed beyond 16384 throws again", feedThrows(desk), 1);
        due("end of all", desk.end(16384), 16384);
        due("run of blanks", desk.run(), 0);
    }

    private static int feedThrows(MatroidDesk desk) {
        try {
            desk.feed(0x20202020, 0x20202020, 0x20202020, 0x20202020, 0x20202020);
        } catch (IllegalStateException e) {
            return 1;
        }
        return 0;
    }

    // Promise 4
    private static void run() {
        Desk desk = new Desk();
        due("run of nothing", desk.run(""), 0);
        due("run of blanks", desk.run(" \t\r\n# all is said ; here"), 0);
        due("run of a making", desk.run("a=uniform 1 2;"), 1);
        due("run with print", desk.run("rank a; rank a;"), 2);
        due("product", desk.product(), "1\n1\n");
        due("refused", desk.run("b=uniform 1 2; rank a; rank a"), NONE);
        due("product is kept", desk.product(), "1\n1\n");
        due("nothing was made", desk.one().elements(B), NONE);
        due("stopped", desk.run("rank a; c=uniform 2 2; rank b; rank c;"), 2);
        due("product up to the stop", desk.product(), "1\n");
        due("made up to the stop", desk.one().elements(C), 2);
        due("product is new", desk.run("d=dual c;"), 1);
        due("product is empty", desk.one().printed(), 0);
        due("bytes are used up", desk.run(""), 0);
        MatroidDesk bare = new MatroidDesk();
        Desk.feed(bare, "!                   ".getBytes(StandardCharsets.ISO_8859_1));
        due("refused", bare.run(), NONE);
        due("a refused script is used up", bare.run(), 0);
    }

    private static int refusedAt(byte[] script) {
        Desk desk = new Desk();
        due("run", desk.run(script), NONE);
        return desk.one().place();
    }

    // Promise 5
    private static void place() {
        Desk desk = new Desk();
        desk.run("a=uniform 1 2;");
        due("place before any was refused", desk.one().place(), NONE);
        desk.run("a=uniform 1 2; nothing a;");
        due("place", desk.one().place(), 15);
        desk.run("rank a;");
        due("place is kept", desk.one().place(), 15);
        desk.run("rank z;");
        due("place is kept where a script stops", desk.one().place(), 15);
        desk.run("rank");
        due("place at the end", desk.one().place(), 4);
    }

    // Promise 6
    private static void why() {
        Desk desk = new Desk();
        desk.run("a=uniform 1 2;");
        due("why of what was done", desk.one().why(), 0);
        desk.run("rank b;");
        due("why", desk.one().why(), 1);
        desk.run("rank b");
        due("why is kept where a script is refused", desk.one().why(), 1);
        desk.run("rank a; weights a { 1 };");
        due("why of the last statement", desk.one().why(), 2);
        desk.run("");
        due("why of an empty script", desk.one().why(), 0);
    }

    // Promises 7 and 8
    private static void printedAndOut() {
        Desk desk = after("a=uniform 2 3; bases a;");
        String text = "{0 1}\n{0 2}\n{1 2}\n";
        due("printed", desk.one().printed(), text.length());
        for (int i = 0; i < text.length(); i++) {
            due("out(" + i + ")", desk.one().out(i), text.charAt(i));
        }
        due("out behind the end", desk.one().out(text.length()), NONE);
        due("out(-1)", desk.one().out(-1), NONE);
        due("out(MAX)", desk.one().out(Integer.MAX_VALUE), NONE);
        due("out(MIN)", desk.one().out(Integer.MIN_VALUE), NONE);
        desk.run("a=dual a;");
        due("printed of a script that prints nothing", desk.one().printed(), 0);
        due("out of what was there before", desk.one().out(0), NONE);
    }

    // Promises 9 and 10
    private static void elementsAndField() {
        Desk desk = after("a=matrix Q 4 { 1 2 3 4 }; b=matrix 251 12 { }; c=matrix 2 0 { , }; d=graph 3 { 0 1, 1 2 };"
                + "e=dual b; f=delete b { 0 11 }; g=sum b c; h=copy c; i=contract a { 1 };");
        // The sum is of different fields, so the script ends there.
        int[] elements = {4, 12, 0, 2, 12, 10, NONE, NONE, NONE};
        int[] fields = {0, 251, 2, 0, 251, 251, NONE, NONE, NONE};
        for (int m = 0; m < elements.length; m++) {
            due("elements(" + m + ")", desk.one().elements(m), elements[m]);
            due("field(" + m + ")", desk.one().field(m), fields[m]);
        }
        for (int letter : NO_LETTERS) {
            due("elements(" + letter + ")", desk.one().elements(letter), NONE);
            due("field(" + letter + ")", desk.one().field(letter), NONE);
        }
        desk.run("z=uniform 3 5; a=copy z;");
        due("elements of z", desk.one().elements(25), 5);
        due("elements of a new", desk.one().elements(A), 5);
    }

    // Promise 11
    private static void rank() {
        Desk desk = after("a=matrix 5 4 { 1 0 1 0, 0 1 4 0, 1 1 0 0 }; c=uniform 0 0;");
        int[] ranks = {0, 1, 1, 2, 1, 2, 2, 2, 0, 1, 1, 2, 1, 2, 2, 2};
        for (int set = 0; set < 16; set++) {
            due("rank of " + set, desk.one().rank(A, set), ranks[set]);
        }
        due("rank of an element that is not there", desk.one().rank(A, 16), NONE);
        due("rank of one that is and one that is not", desk.one().rank(A, 17), NONE);
        due("rank of -1", desk.one().rank(A, -1), NONE);
        due("rank of MIN", desk.one().rank(A, Integer.MIN_VALUE), NONE);
        due("rank of MAX", desk.one().rank(A, Integer.MAX_VALUE), NONE);
        due("rank of no elements", desk.one().rank(C, 0), 0);
        due("rank of one of no elements", desk.one().rank(C, 1), NONE);
        for (int letter : NO_LETTERS) {
            due("rank, letter " + letter, desk.one().rank(letter, 0), NONE);
        }
    }

    // Promises 12 and 13
    private static void countAndMember() {
        // A triangle, an edge beside it, and a loop.
        Desk desk = after("a=graph 4 { 0 1, 1 2, 2 0, 2 3, 3 3 }; b=uniform 0 0; c=uniform 12 12; d=uniform 0 2;");
        lists(desk, A, 0, 11, 13, 14);
        lists(desk, A, 1, 16, 7);
        lists(desk, A, 2, 8, 3, 5, 6);
        lists(desk, A, 3, 16, 17, 18, 20, 24, 25, 26, 28, 23, 31);
        lists(desk, B, 0, 0);
        lists(desk, B, 1);
        lists(desk, B, 2);
        lists(desk, B, 3, 0);
        lists(desk, D, 0, 0);
        lists(desk, D, 1, 1, 2);
        lists(desk, D, 2);
        lists(desk, D, 3, 3);
        due("flats of twelve free elements", desk.one().count(C, 3), 4096);
        due("the last flat of them", desk.one().member(C, 3, 4095), 4095);
        due("the flat before it", desk.one().member(C, 3, 4094), 4094);
        due("the first of two", desk.one().member(C, 3, 13), 3);
        due("cocircuits of them", desk.one().count(C, 2), 12);
        for (int kind : new int[] {-1, 4, Integer.MAX_VALUE, Integer.MIN_VALUE}) {
            due("count of kind " + kind, desk.one().count(A, kind), NONE);
            due("member of kind " + kind, desk.one().member(A, kind, 0), NONE);
        }
        for (int letter : NO_LETTERS) {
            due("count, letter " + letter, desk.one().count(letter, 0), NONE);
            due("member, letter " + letter, desk.one().member(letter, 0, 0), NONE);
        }
    }

    private static void lists(Desk desk, int m, int kind, int... sets) {
        due("count(" + m + ", " + kind + ")", desk.one().count(m, kind), sets.length);
        for (int i = 0; i < sets.length; i++) {
            due("member(" + m + ", " + kind + ", " + i + ")", desk.one().member(m, kind, i), sets[i]);
        }
        due("member behind the last", desk.one().member(m, kind, sets.length), NONE);
        due("member(-1)", desk.one().member(m, kind, -1), NONE);
        due("member(MAX)", desk.one().member(m, kind, Integer.MAX_VALUE), NONE);
    }

    // Promise 14
    private static void tutte() {
        Desk desk = after("a=uniform 2 4; b=uniform 0 0; c=uniform 12 12; d=uniform 0 12; e=uniform 6 12;");
        // x^2 + 2x + 2y + y^2
        due("x^2", desk.one().tutte(A, 2, 0), 1);
        due("x", desk.one().tutte(A, 1, 0), 2);
        due("y", desk.one().tutte(A, 0, 1), 2);
        due("y^2", desk.one().tutte(A, 0, 2), 1);
        due("x y", desk.one().tutte(A, 1, 1), 0);
        due("1", desk.one().tutte(A, 0, 0), 0);
        due("x^3", desk.one().tutte(A, 3, 0), 0);
        due("y^13", desk.one().tutte(A, 0, 13), 0);
        due("1 of no elements", desk.one().tutte(B, 0, 0), 1);
        due("x^12", desk.one().tutte(C, 12, 0), 1);
        due("x^11", desk.one().tutte(C, 11, 0), 0);
        due("y^12", desk.one().tutte(D, 0, 12), 1);
        due("x of the uniform one of 6 of 12", desk.one().tutte(4, 1, 0), 252);
        for (int i : new int[] {-1, 13, 14, 100, Integer.MAX_VALUE, Integer.MIN_VALUE}) {
            due("tutte(" + i + ", 0)", desk.one().tutte(A, i, 0), 0);
            due("tutte(0, " + i + ")", desk.one().tutte(A, 0, i), 0);
            due("tutte(" + i + ", " + i + ")", desk.one().tutte(A, i, i), 0);
        }
        for (int letter : NO_LETTERS) {
            due("tutte, letter " + letter, desk.one().tutte(letter, 0, 0), 0);
        }
    }

    // Promise 15
    private static void weight() {
        Desk desk = after("a=uniform 2 4; b=copy a; weights a { 999 -999 -0 007 }; c=copy a; d=dual a; weights c { 1 2 3 4 };");
        int[] weights = {999, -999, 0, 7};
        for (int e = 0; e < 4; e++) {
            due("weight of " + e, desk.one().weight(A, e), weights[e]);
            due("weight in the copy before", desk.one().weight(B, e), 0);
            due("weight in the copy behind", desk.one().weight(C, e), e + 1);
            due("weight in the dual", desk.one().weight(D, e), 0);
        }
        due("weight(4)", desk.one().weight(A, 4), 0);
        due("weight(-1)", desk.one().weight(A, -1), 0);
        due("weight(MAX)", desk.one().weight(A, Integer.MAX_VALUE), 0);
        for (int letter : NO_LETTERS) {
            due("weight, letter " + letter, desk.one().weight(letter, 0), 0);
        }
        desk.run("weights a { 1 2 3 };");
        due("weights that are too few change nothing", desk.one().weight(A, 0), 999);
        desk.run("weights a { 1 2 3 4 5 };");
        due("weights that are too many change nothing", desk.one().weight(A, 0), 999);
        desk.run("a=uniform 1 2; a=dual c;");
        due("weights of what is made anew", desk.one().weight(A, 0), 0);
        desk.run("c=copy c;");
        due("weights of a copy of itself", desk.one().weight(C, 3), 4);
    }

    // Promise 16
    private static void best() {
        Desk desk = after("a=uniform 2 4; b=uniform 0 3; c=uniform 3 3; d=graph 3 { 0 1, 1 2, 2 0, 0 1 };"
                + "weights c { -5 -6 -7 }; weights d { 1 3 3 2 };");
        due("best of equal weights", desk.one().best(A), 3);
        due("best of rank 0", desk.one().best(B), 0);
        due("best of weights below 0 is a basis", desk.one().best(C), 7);
        due("best", desk.one().best(D), 6);
        desk.run("weights a { -3 -1 -2 -1 };");
        due("best of weights below 0", desk.one().best(A), 10);
        desk.run("weights a { 1 5 1 1 };");
        due("best: of equal ones the first", desk.one().best(A), 3);
        for (int letter : NO_LETTERS) {
            due("best, letter " + letter, desk.one().best(letter), NONE);
        }
    }

    // Promises 17 and 18
    private static void commonAndCover() {
        // Two partitions of four elements: {0 1} {2 3} and {0 2} {1 3}, then {0 1 2} {3}.
        Desk desk = after("a=matrix Q 4 { 1 1 0 0, 0 0 1 1 }; b=matrix 2 4 { 1 0 1 0, 0 1 0 1 };"
                + "c=matrix 3 4 { 1 1 1 0 }; d=uniform 0 3; e=uniform 0 4; f=uniform 4 4; g=uniform 0 0;");
        due("common", desk.one().common(A, B), 9);
        due("cover", desk.one().cover(A, B), 0);
        due("common", desk.one().common(A, C), 1);
        due("cover", desk.one().cover(A, C), 0);
        due("cover the other way", desk.one().cover(C, A), 15);
        due("common with itself", desk.one().common(A, A), 5);
        due("common of rank 0", desk.one().common(A, 4), 0);
        due("cover of rank 0", desk.one().cover(A, 4), 0);
        due("cover of rank 0 the other way", desk.one().cover(4, A), 15);
        due("cover with all free", desk.one().cover(A, 5), 15);
        due("common of no elements", desk.one().common(6, 6), 0);
        due("cover of no elements", desk.one().cover(6, 6), 0);
        due("common of unequal ones", desk.one().common(A, D), NONE);
        due("cover of unequal ones", desk.one().cover(A, D), NONE);
        for (int letter : NO_LETTERS) {
            due("common, letter " + letter, desk.one().common(letter, A), NONE);
            due("common, second letter " + letter, desk.one().common(A, letter), NONE);
            due("cover, letter " + letter, desk.one().cover(letter, A), NONE);
            due("cover, second letter " + letter, desk.one().cover(A, letter), NONE);
        }
    }

    // Promise 19
    private static void sign() {
        // The first basis is {1 2}, and its determinant is below 0, so all are turned round.
        Desk desk = after("a=matrix Q 4 { 0 0 1 2, 0 1 0 3 }; b=matrix 7 2 { 1 0, 0 1 }; c=uniform 0 2; d=uniform 0 0;");
        due("sign {0 1}", desk.one().sign(A, 3), 0);
        due("sign {0 2}", desk.one().sign(A, 5), 0);
        due("sign {1 2}", desk.one().sign(A, 6), 1);
        due("sign {1 3}", desk.one().sign(A, 10), 1);
        due("sign {2 3}", desk.one().sign(A, 12), -1);
        due("sign of too few", desk.one().sign(A, 1), 2);
        due("sign of too many", desk.one().sign(A, 7), 2);
        due("sign of none", desk.one().sign(A, 0), 2);
        due("sign of others", desk.one().sign(A, 17), 2);
        due("sign of -1", desk.one().sign(A, -1), 2);
        due("sign of two of the highest", desk.one().sign(A, 0xC0000000), 2);
        due("sign not over Q", desk.one().sign(B, 3), 2);
        due("sign with R 0", desk.one().sign(C, 0), 1);
        due("sign of one with R 0", desk.one().sign(C, 1), 2);
        due("sign of no elements", desk.one().sign(D, 0), 1);
        for (int letter : NO_LETTERS) {
            due("sign, letter " + letter, desk.one().sign(letter, 0), 2);
        }
    }

    // Promise 20
    private static void below() {
        // The circuits are {3}, {0 1 2} with 0 + 1 - 2, {0 1 4}, {0 2 4}, {1 2 4}.
        Desk desk = after("a=matrix Q 5 { 1 0 1 0 2, 0 1 1 0 -1 }; b=matrix 2 2 { 1 1 }; c=uniform 2 2;");
        due("circuits", desk.one().count(A, 1), 5);
        due("circuit 0", desk.one().member(A, 1, 0), 8);
        due("below of a loop", desk.one().below(A, 0), 0);
        due("below of {0 1 2}", desk.one().below(A, 1), 4);
        // 2 (1 0) - (0 1) = (2 -1), so 2, -1, -1: times what makes the least above 0.
        due("below of {0 1 4}", desk.one().below(A, 2), 2 | 16);
        // 3 (1 0) - (1 1) = (2 -1)
        due("below of {0 2 4}", desk.one().below(A, 3), 4 | 16);
        // -3 (0 1) + 2 (1 1) = (2 -1), turned round: 3, -2, 1
        due("below of {1 2 4}", desk.one().below(A, 4), 4);
        due("below behind the last", desk.one().below(A, 5), NONE);
        due("below(-1)", desk.one().below(A, -1), NONE);
        due("below(MAX)", desk.one().below(A, Integer.MAX_VALUE), NONE);
        due("below not over Q", desk.one().below(B, 0), NONE);
        due("below with no circuits", desk.one().below(C, 0), NONE);
        for (int letter : NO_LETTERS) {
            due("below, letter " + letter, desk.one().below(letter, 0), NONE);
        }
    }

    // Promises 21, 22 and 23
    private static void witness() {
        Desk desk = after("a=graph 4 { 0 1, 0 2, 0 3, 1 2, 1 3, 2 3 }; b=uniform 2 4; c=graph 3 { 0 1, 1 2, 2 0, 2 0 };"
                + "d=uniform 0 0; e=matrix 2 3 { 1 1 0 }; f=uniform 3 7;");
        // Of the first four elements 0 and 2 get to be one beside the other when 4 is contracted.
        int[] images = {1, 3, 0, 2};
        due("contracted", desk.one().contracted(A, C), 16);
        due("deleted", desk.one().deleted(A, C), 32);
        for (int e = 0; e < 4; e++) {
            due("image of " + e, desk.one().image(A, C, e), images[e]);
        }
        due("image of 4", desk.one().image(A, C, 4), NONE);
        due("image of -1", desk.one().image(A, C, -1), NONE);
        due("image of MAX", desk.one().image(A, C, Integer.MAX_VALUE), NONE);
        due("contracted: no minor", desk.one().contracted(A, B), NONE);
        due("deleted: no minor", desk.one().deleted(A, B), NONE);
        due("image: no minor", desk.one().image(A, B, 0), NONE);
        due("contracted: too great", desk.one().contracted(A, 5), NONE);
        due("contracted: no elements", desk.one().contracted(A, D), 0);
        due("deleted: no elements", desk.one().deleted(A, D), 63);
        due("image: no elements", desk.one().image(A, D, 0), NONE);
        due("contracted: another field", desk.one().contracted(A, 4), 4 | 16);
        due("deleted: another field", desk.one().deleted(A, 4), 32);
        due("image: another field", desk.one().image(A, 4, 2), 0);
        due("contracted: itself", desk.one().contracted(A, A), 0);
        due("deleted: itself", desk.one().deleted(A, A), 0);
        due("image: itself", desk.one().image(A, A, 5), 5);
        due("contracted: none of none", desk.one().contracted(D, D), 0);
        for (int letter : NO_LETTERS) {
            due("contracted, letter " + letter, desk.one().contracted(letter, A), NONE);
            due("contracted, second letter " + letter, desk.one().contracted(A, letter), NONE);
            due("deleted, letter " + letter, desk.one().deleted(letter, A), NONE);
            due("deleted, second letter " + letter, desk.one().deleted(A, letter), NONE);
            due("image, letter " + letter, desk.one().image(letter, A, 0), NONE);
            due("image, second letter " + letter, desk.one().image(A, letter, 0), NONE);
        }
        desk.run("c=uniform 3 3;");
        due("contracted: of what is there now", desk.one().contracted(A, C), 0);
        due("deleted: of what is there now", desk.one().deleted(A, C), 63 & ~7);
    }

    // Where there are as many elements as can be, what is behind them is nowhere held.
    private static void twelveElements() {
        Desk desk = after("a=uniform 6 12; weights a { 1 2 3 4 5 6 7 8 9 10 11 12 };");
        due("rank of all", desk.one().rank(A, 4095), 6);
        due("rank of one more", desk.one().rank(A, 4096), NONE);
        due("weight of the last", desk.one().weight(A, 11), 12);
        due("weight of one more", desk.one().weight(A, 12), 0);
        due("best", desk.one().best(A), 4095 - 63);
        due("bases", desk.one().count(A, 0), 924);
        due("the last basis", desk.one().member(A, 0, 923), 4095 - 63);
        due("circuits", desk.one().count(A, 1), 792);
        due("cocircuits", desk.one().count(A, 2), 792);
        due("flats", desk.one().count(A, 3), 1 + 12 + 66 + 220 + 495 + 792 + 1);
        due("sign", desk.one().sign(A, 4095 - 63), 1);
        due("sign with one more", desk.one().sign(A, 4096 + 31), 2);
        due("below", desk.one().below(A, 791), 64 * (1 + 4 + 16));
        due("below of one more circuit", desk.one().below(A, 792), NONE);
        due("image of the last", desk.one().image(A, A, 11), 11);
        due("image of one more", desk.one().image(A, A, 12), NONE);
        due("tutte", desk.one().tutte(A, 6, 0), 1);
        due("common", desk.one().common(A, A), 63);
        due("cover", desk.one().cover(A, A), 0);
    }
}
