import java.nio.charset.StandardCharsets;
import java.util.Arrays;

/** The sentences of the promises that name boundary cases of a call: each with a test of its own. */
public final class BoundsOfCallsTest {
    private static final int NONE = MatroidDesk.NONE;
    private static final int A = 0;
    private static final int B = 1;
    private static final int C = 2;
    private static final int D = 3;
    private static final int E = 4;
    private static final int F = 5;
    private static final int Z = 25;

    /**
     * a: nothing; b: a loop; c: a free element; d: twelve loops; e: twelve free elements; f: two that are parallel.
     * No other letter has a matroid.
     */
    private static final String SMALL_AND_LARGE = "a=uniform 0 0; b=uniform 0 1; c=uniform 1 1; d=uniform 0 12;"
        + "e=uniform 12 12; f=uniform 1 2;";

    public static void main(String[] args) {
        newObject();
        objectsApart();
        fedOrder();
        fedBytes();
        fedTooMuch();
        endCuts();
        endAnswers();
        endThrows();
        usedUp();
        doneAndPrinted();
        refusedChangesNothing();
        lastPlace();
        lastWhy();
        printedBytes();
        outBounds();
        elementsBounds();
        fieldBounds();
        rankBounds();
        countBounds();
        memberBounds();
        tutteBounds();
        weightBounds();
        bestBounds();
        commonBounds();
        coverBounds();
        signBounds();
        belowBounds();
        contractedBounds();
        deletedBounds();
        imageBounds();
        letters();
        looksChangeNothing();
        fiveHundredAndTwelve();
        Checks.finish();
    }

    private static void newObject() {
        Checks.says(1, "No matroids, no bytes.");
        MatroidDesk desk = new MatroidDesk();
        for (int letter = 0; letter < 26; letter++) {
            Checks.due("elements(" + letter + ")", desk.elements(letter), NONE);
            looksOfNone(desk, letter);
        }
        Checks.due("end(1) throws", Checks.endThrows(desk, 1), 1);
        Checks.due("end(0)", desk.end(0), 0);
        Checks.due("run()", desk.run(), 0);
        Checks.due("NONE", MatroidDesk.NONE, -1);
    }

    private static void objectsApart() {
        Checks.says(1, "No matroids, no bytes.");
        MatroidDesk one = new MatroidDesk();
        Checks.feedFilled(one, "a=uniform 1 2; weights a { 3 4 }; rank a;");
        one.run();
        Checks.feedFilled(one, "?");
        one.run();
        Checks.feedFilled(one, "rank z;");
        MatroidDesk other = new MatroidDesk();
        Checks.due("elements beside another object", other.elements(A), NONE);
        Checks.due("printed beside another object", other.printed(), 0);
        Checks.due("place beside another object", other.place(), NONE);
        Checks.due("end beside another object", other.end(0), 0);
        Checks.due("run of the other", other.run(), 0);
        Checks.due("run of the one", one.run(), 0);
        Checks.due("why of the one", one.why(), 1);
        Checks.due("why of the other", other.why(), 0);
        Checks.due("weight of the one", one.weight(A, 1), 4);
    }

    private static void fedOrder() {
        Checks.says(2, "Twenty bytes come behind those that came in, the highest byte of each int first.");
        for (int at = 0; at < 40; at++) {
            byte[] script = new byte[40];
            Arrays.fill(script, (byte) ' ');
            script[at] = '!';
            MatroidDesk desk = new MatroidDesk();
            for (int from = 0; from < 40; from += 20) {
                desk.feed(intAt(script, from), intAt(script, from + 4), intAt(script, from + 8), intAt(script, from + 12),
                    intAt(script, from + 16));
            }
            Checks.due("run with a stray byte " + at, desk.run(), NONE);
            Checks.due("place of the stray byte " + at, desk.place(), at);
        }
        MatroidDesk desk = new MatroidDesk();
        // "a=un" "ifor" "m 1 " "2;ra" "nk a", then ";"
        desk.feed(0x613d756e, 0x69666f72, 0x6d203120, 0x323b7261, 0x6e6b2061);
        desk.feed(0x3b202020, 0x20202020, 0x20202020, 0x20202020, 0x20202020);
        Checks.due("run of two statements", desk.run(), 2);
    }

    private static int intAt(byte[] script, int at) {
        int value = 0;
        for (int i = 0; i < 4; i++) {
            value = value << 8 | script[at + i] & 255;
        }
        return value;
    }

    private static void fedBytes() {
        Checks.says(2, "Twenty bytes come behind those that came in, the highest byte of each int first.");
        int blanks = 0x20202020;
        int[] ends = {0x00, 0x7f, 0x80, 0xa0, 0xff};
        for (int end : ends) {
            MatroidDesk desk = new MatroidDesk();
            desk.feed(0x20202000 | end, blanks, blanks, blanks, 0x20202000 | end);
            Checks.due("run with byte " + end, desk.run(), NONE);
            Checks.due("place of byte " + end, desk.place(), 3);
            // Behind a # every byte is a blank, whatever the sign of its int.
            desk.feed(0x20202023, end << 24 | end << 16 | end << 8 | end, 0, -1, Integer.MIN_VALUE);
            Checks.due("run with byte " + end + " behind a #", desk.run(), 0);
        }
    }

    // An object is promised for fewer calls than it takes to fill it, so this goes beyond them.
    private static void fedTooMuch() {
        Checks.says(2, "IllegalStateException: there would be more than 16384.");
        MatroidDesk desk = new MatroidDesk();
        for (int i = 0; i < 819; i++) {
            Checks.due("feed " + i + " throws", Checks.blanksThrow(desk), 0);
        }
        Checks.due("feed up to 16400 throws", Checks.blanksThrow(desk), 1);
        Checks.due("bytes behind it", desk.end(16365), 16380);
        Checks.due("feed up to 16385 throws", Checks.blanksThrow(desk), 1);
        Checks.due("bytes behind it", desk.end(16364), 16365);
        Checks.due("feed up to 16384 throws", Checks.blanksThrow(desk), 0);
        Checks.due("feed of a full object throws", Checks.blanksThrow(desk), 1);
        Checks.due("bytes of a full object", desk.end(16384), 16384);
        Checks.due("run of a full object", desk.run(), 0);
        Checks.due("feed behind the run throws", Checks.blanksThrow(desk), 0);
        Checks.due("bytes behind the run", desk.end(0), 20);
    }

    private static void endCuts() {
        Checks.says(3, "The bytes that came in are only the first n.");
        String script = "a=uniform 0 0;;;;;;;";
        for (int n = 0; n <= 20; n++) {
            MatroidDesk desk = new MatroidDesk();
            Checks.feedFilled(desk, script);
            desk.end(n);
            int done = n == 0 ? 0 : n == 14 ? 1 : NONE;
            Checks.due("run of the first " + n, desk.run(), done);
            Checks.due("end(0) behind it", desk.end(0), 0);
        }
        cutWithin("rankrank", 4, 4);
        cutWithin("a=uniform 1 234", 14, 14);
        cutWithin("weights a { 1234 };", 15, 15);
        cutWithin("weights a { -1 };", 13, 12);
        cutWithin("rank a;", 6, 6);
        cutWithin("rank a #\n;", 8, 8);
        MatroidDesk desk = new MatroidDesk();
        Checks.feedFilled(desk, script);
        desk.end(14);
        Checks.feedFilled(desk, "rank a;");
        Checks.due("what is fed comes behind the first n", desk.end(21), 34);
        Checks.due("run of both", desk.run(), 2);
        Checks.feedFilled(desk, script);
        desk.end(0);
        Checks.due("what was cut is gone", Checks.endThrows(desk, 1), 1);
    }

    // A token that is cut ends there, whatever came in behind it.
    private static void cutWithin(String script, int n, int place) {
        MatroidDesk desk = new MatroidDesk();
        Checks.feedFilled(desk, script);
        desk.end(n);
        Checks.due("run of the first " + n + " of " + script, desk.run(), NONE);
        Checks.due("place in the first " + n + " of " + script, desk.place(), place);
    }

    private static void endAnswers() {
        Checks.says(3, "Answers how many there were.");
        MatroidDesk desk = new MatroidDesk();
        Checks.due("end(0) of nothing", desk.end(0), 0);
        Checks.feedFilled(desk, "rank a;");
        Checks.due("end(20) of all", desk.end(20), 20);
        Checks.due("end(19)", desk.end(19), 20);
        Checks.due("end(19) again", desk.end(19), 19);
        Checks.feedFilled(desk, "rank a;");
        Checks.due("end(0)", desk.end(0), 39);
        Checks.due("end(0) again", desk.end(0), 0);
    }

    private static void endThrows() {
        Checks.says(3, "IllegalArgumentException: there are not so many, or n is below 0.");
        MatroidDesk desk = new MatroidDesk();
        Checks.due("end(1) of nothing throws", Checks.endThrows(desk, 1), 1);
        Checks.due("end(-1) of nothing throws", Checks.endThrows(desk, -1), 1);
        Checks.feedFilled(desk, "rank a;");
        Checks.due("end(21) of 20 throws", Checks.endThrows(desk, 21), 1);
        for (int n : Checks.FAR_NUMBERS) {
            Checks.due("end(" + n + ") throws", Checks.endThrows(desk, n), 1);
        }
        Checks.due("end that threw changes nothing", desk.end(7), 20);
        Checks.due("end(8) of 7 throws", Checks.endThrows(desk, 8), 1);
        Checks.due("run of what is left", desk.run(), 0);
        Checks.due("why of what is left", desk.why(), 1);
        Checks.due("end(1) behind a run throws", Checks.endThrows(desk, 1), 1);
    }

    private static void usedUp() {
        Checks.says(4, "The bytes that came in are used up as a script.");
        // Done, ended at a statement that can't be, refused within, refused at the end.
        for (String script : new String[] {"a=uniform 1 2;", "rank b;", "rank ;", "rank"}) {
            MatroidDesk desk = new MatroidDesk();
            Checks.feedFilled(desk, script);
            desk.run();
            Checks.due("end(0) behind " + script, desk.end(0), 0);
            Checks.due("run behind " + script, desk.run(), 0);
            Checks.feedFilled(desk, "c=uniform 2 3;");
            Checks.due("the next script behind " + script, desk.run(), 1);
            Checks.due("what it made", desk.elements(C), 3);
        }
    }

    private static void doneAndPrinted() {
        Checks.says(4, "Answers how many statements were done, and what they printed is the product");
        Desk desk = new Desk();
        Checks.due("run of nothing", desk.run(""), 0);
        Checks.due("run of blanks", desk.run(" \t\r\n"), 0);
        Checks.due("run of a comment", desk.run("# rank a;"), 0);
        Checks.due("run of four", desk.run("a=uniform 1 2; rank a; weights a { 1 2 }; best a;"), 4);
        Checks.due("product of four", desk.product(), "1\n{1}\n");
        Checks.due("run that ends at its first", desk.run("rank b; rank a;"), 0);
        Checks.due("product of none", desk.product(), "");
        Checks.due("run that ends at its last", desk.run("rank a; rank a; rank b;"), 2);
        Checks.due("product of the two before it", desk.product(), "1\n1\n");
        Checks.due("run of nothing", desk.run(""), 0);
        Checks.due("product of nothing", desk.product(), "");
        Checks.due("run of one that prints nothing", desk.run("b=dual a;"), 1);
        Checks.due("product of it", desk.product(), "");
        Checks.due("what is before the end is done", desk.run("c=uniform 3 3; weights a { 5 6 }; rank d; c=dual c;"), 2);
        Checks.due("made before the end", desk.one().rank(C, 7), 3);
        Checks.due("weighed before the end", desk.one().weight(A, 1), 6);
    }

    private static void refusedChangesNothing() {
        Checks.says(4, "NONE when it is refused: nothing else changes then.");
        Desk desk = Checks.after("a=uniform 1 2; weights a { 3 4 }; best a; rank b;");
        String[] scripts = {"a=uniform 2 3; b=copy a; weights a { 5 6 7 }; rank a; rank a", "?", "rank z; rank", ";",
            "a=uniform 2 3;".repeat(401)};
        for (String script : scripts) {
            Checks.due("run", desk.run(script), NONE);
            Checks.due("product", desk.product(), "{1}\n");
            Checks.due("why", desk.one().why(), 1);
            Checks.due("elements", desk.one().elements(A), 2);
            Checks.due("elements of none", desk.one().elements(B), NONE);
            Checks.due("weight", desk.one().weight(A, 0), 3);
        }
    }

    private static void lastPlace() {
        Checks.says(5, "The place at which the last script that was refused was so; NONE when none was.");
        Desk desk = new Desk();
        Checks.due("place without a script", desk.one().place(), NONE);
        desk.run("");
        desk.run("a=uniform 1 2; rank b;");
        Checks.due("place when none was refused", desk.one().place(), NONE);
        desk.run("rank a; ?");
        Checks.due("place", desk.one().place(), 8);
        desk.run("rank a;");
        desk.run("rank b;");
        desk.run("");
        Checks.due("place behind others that were not refused", desk.one().place(), 8);
        desk.run(";");
        Checks.due("place 0", desk.one().place(), 0);
        desk.run("rank a");
        Checks.due("place at the end", desk.one().place(), 6);
    }

    private static void lastWhy() {
        Checks.says(6, "WHY the last script that was not refused ended at a statement that could not be done, be it the last "
            + "one; 0 if there was no such, or no script.");
        Desk desk = new Desk();
        Checks.due("why without a script", desk.one().why(), 0);
        desk.run("rank a");
        Checks.due("why when all were refused", desk.one().why(), 0);
        desk.run("rank a; a=uniform 1 2;");
        Checks.due("why of the first of two", desk.one().why(), 1);
        desk.run("a=uniform 1 2; weights a { };");
        Checks.due("why of the last of two", desk.one().why(), 2);
        desk.run("rank a; ?");
        Checks.due("why behind one that was refused", desk.one().why(), 2);
        desk.run("rank a;");
        Checks.due("why of a script that was done", desk.one().why(), 0);
        desk.run("rank b;");
        desk.run("");
        Checks.due("why of an empty script", desk.one().why(), 0);
    }

    private static void printedBytes() {
        Checks.says(7, "How many bytes the product has; 0 before there is one.");
        Desk desk = new Desk();
        Checks.due("printed without a script", desk.one().printed(), 0);
        desk.run("rank");
        Checks.due("printed when all were refused", desk.one().printed(), 0);
        desk.run("a=uniform 1 12; rank a;");
        Checks.due("printed", desk.one().printed(), 2);
        desk.run("bases a;");
        Checks.due("printed anew", desk.one().printed(), 10 * 4 + 2 * 5);
        desk.run("bases a; ?");
        Checks.due("printed behind one that was refused", desk.one().printed(), 10 * 4 + 2 * 5);
        desk.run("bases a; rank b;");
        Checks.due("printed by what was done", desk.one().printed(), 10 * 4 + 2 * 5);
        desk.run("rank b;");
        Checks.due("printed by nothing", desk.one().printed(), 0);
    }

    private static void outBounds() {
        Checks.says(8, "Byte i of the product; NONE when there is none such.");
        Desk desk = new Desk();
        Checks.due("out(0) without a product", desk.one().out(0), NONE);
        desk.run("a=uniform 1 2; bases a;");
        String text = "{0}\n{1}\n";
        for (int i = 0; i < text.length(); i++) {
            Checks.due("out(" + i + ")", desk.one().out(i), text.charAt(i));
        }
        Checks.due("out behind the last", desk.one().out(text.length()), NONE);
        for (int i : Checks.FAR_NUMBERS) {
            Checks.due("out(" + i + ")", desk.one().out(i), NONE);
        }
        desk.run("rank a;");
        Checks.due("out(1) of less", desk.one().out(1), '\n');
        Checks.due("out(2) of less", desk.one().out(2), NONE);
        desk.run("");
        Checks.due("out(0) of nothing", desk.one().out(0), NONE);
    }

    private static void elementsBounds() {
        Checks.says(9, "N.");
        Desk desk = Checks.after(SMALL_AND_LARGE);
        int[] sizes = {0, 1, 1, 12, 12, 2};
        for (int m = 0; m < sizes.length; m++) {
            Checks.due("elements(" + m + ")", desk.one().elements(m), sizes[m]);
        }
        desk.run("e=uniform 0 0; a=uniform 12 12;");
        Checks.due("elements of what was made less", desk.one().elements(E), 0);
        Checks.due("elements of what was made greater", desk.one().elements(A), 12);
    }

    private static void fieldBounds() {
        Checks.says(10, "0 for Q, or the prime.");
        Desk desk = Checks.after("a=matrix Q 0 { }; b=matrix 2 0 { }; c=matrix 251 12 { }; d=graph 1 { }; e=uniform 0 0;"
            + "f=dual c; g=delete c { 0 1 2 3 4 5 6 7 8 9 10 11 }; h=contract b { }; i=sum b b; j=copy c; k=matrix 3 1 { };");
        int[] fields = {0, 2, 251, 0, 0, 251, 251, 2, 2, 251, 3};
        for (int m = 0; m < fields.length; m++) {
            Checks.due("field(" + m + ")", desk.one().field(m), fields[m]);
        }
    }

    private static void rankBounds() {
        Checks.says(11, "The rank of a set; NONE also when it has other elements, or is below 0.");
        Desk desk = Checks.after(SMALL_AND_LARGE);
        int[] sizes = {0, 1, 1, 12, 12, 2};
        int[] ranks = {0, 0, 1, 0, 12, 1};
        for (int m = 0; m < sizes.length; m++) {
            int all = (1 << sizes[m]) - 1;
            Checks.due("rank of no elements", desk.one().rank(m, 0), 0);
            Checks.due("rank of all elements", desk.one().rank(m, all), ranks[m]);
            Checks.due("rank of the one behind the last", desk.one().rank(m, all + 1), NONE);
            Checks.due("rank of all and that one", desk.one().rank(m, 2 * all + 1), NONE);
            for (int far : Checks.FAR_NUMBERS) {
                Checks.due("rank of " + far, desk.one().rank(m, far), NONE);
            }
        }
        Checks.due("rank of one of two that are parallel", desk.one().rank(F, 2), 1);
        Checks.due("rank of eleven of twelve", desk.one().rank(E, 4095 - 1024), 11);
    }

    private static void countBounds() {
        Checks.says(12, "How many there are: kind 0 bases, 1 circuits, 2 cocircuits, 3 flats; NONE also for another kind.");
        Desk desk = Checks.after(SMALL_AND_LARGE);
        int[][] counts = {{1, 0, 0, 1}, {1, 1, 0, 1}, {1, 0, 1, 2}, {1, 12, 0, 1}, {1, 0, 12, 4096}, {2, 1, 1, 2}};
        for (int m = 0; m < counts.length; m++) {
            for (int kind = 0; kind < 4; kind++) {
                Checks.due("count(" + m + ", " + kind + ")", desk.one().count(m, kind), counts[m][kind]);
            }
            Checks.due("count of kind 4", desk.one().count(m, 4), NONE);
            for (int kind : Checks.FAR_NUMBERS) {
                Checks.due("count of kind " + kind, desk.one().count(m, kind), NONE);
            }
        }
    }

    private static void memberBounds() {
        Checks.says(13, "The i-th of these, from 0 on, in ORDER; NONE also when there is none such.");
        Desk desk = Checks.after(SMALL_AND_LARGE);
        int[][][] members = {{{0}, {}, {}, {0}}, {{0}, {1}, {}, {1}}, {{1}, {}, {1}, {0, 1}},
            {{0}, {1, 2, 4, 8, 16, 32, 64, 128, 256, 512, 1024, 2048}, {}, {4095}}};
        for (int m = 0; m < members.length; m++) {
            for (int kind = 0; kind < 4; kind++) {
                Checks.lists(desk, m, kind, members[m][kind]);
                Checks.due("member of kind 4", desk.one().member(m, 4, 0), NONE);
                for (int far : Checks.FAR_NUMBERS) {
                    Checks.due("member " + far, desk.one().member(m, kind, far), NONE);
                    Checks.due("member of kind " + far, desk.one().member(m, far, 0), NONE);
                }
            }
        }
        Checks.due("the first flat of twelve free", desk.one().member(E, 3, 0), 0);
        Checks.due("the first of two elements", desk.one().member(E, 3, 13), 3);
        Checks.due("the last of two elements", desk.one().member(E, 3, 13 + 65), 1024 + 2048);
        Checks.due("the last flat", desk.one().member(E, 3, 4095), 4095);
        Checks.due("behind the last flat", desk.one().member(E, 3, 4096), NONE);
    }

    private static void tutteBounds() {
        Checks.says(14, "The coefficient of x^i y^j in the Tutte polynomial, 0 for all that are not in it, and when there is no "
            + "matroid.");
        Desk desk = Checks.after(SMALL_AND_LARGE);
        int[] ofX = {0, 0, 1, 0, 12};
        int[] ofY = {0, 1, 0, 12, 0};
        for (int m = 0; m < ofX.length; m++) {
            for (int i = 0; i <= 14; i++) {
                for (int j = 0; j <= 14; j++) {
                    int due = i == ofX[m] && j == ofY[m] ? 1 : 0;
                    Checks.due("tutte(" + m + ", " + i + ", " + j + ")", desk.one().tutte(m, i, j), due);
                }
            }
        }
        for (int m = 0; m <= F; m++) {
            for (int far : Checks.FAR_NUMBERS) {
                Checks.due("tutte of x^" + far, desk.one().tutte(m, far, 0), 0);
                Checks.due("tutte of y^" + far, desk.one().tutte(m, 0, far), 0);
                Checks.due("tutte of both", desk.one().tutte(m, far, far), 0);
            }
        }
        for (int letter : Checks.NO_LETTERS) {
            Checks.due("tutte of letter " + letter, desk.one().tutte(letter, 0, 0), 0);
        }
        Checks.due("tutte of no matroid", desk.one().tutte(Z, 0, 0), 0);
    }

    private static void weightBounds() {
        Checks.says(15, "The weight of an element; 0 when there is none such, or no matroid.");
        Desk desk = Checks.after(SMALL_AND_LARGE
            + "weights e { -999 1 2 3 4 5 6 7 8 9 10 999 }; weights f { 7 8 }; weights c { 9 }; weights a { };");
        Checks.due("weight of the first", desk.one().weight(E, 0), -999);
        Checks.due("weight of the last", desk.one().weight(E, 11), 999);
        int[] sizes = {0, 1, 1, 12, 12, 2};
        for (int m = 0; m < sizes.length; m++) {
            for (int e = sizes[m]; e < 32; e++) {
                Checks.due("weight of element " + e, desk.one().weight(m, e), 0);
            }
            for (int far : Checks.FAR_NUMBERS) {
                Checks.due("weight of element " + far, desk.one().weight(m, far), 0);
            }
        }
        for (int letter : Checks.NO_LETTERS) {
            Checks.due("weight, letter " + letter, desk.one().weight(letter, 0), 0);
        }
        Checks.due("weight of no matroid", desk.one().weight(Z, 0), 0);
        // A matroid of fewer elements in the same place has nothing of those that were there.
        desk.run("e=uniform 1 2;");
        Checks.due("weight of an element that is gone", desk.one().weight(E, 11), 0);
    }

    private static void bestBounds() {
        Checks.says(16, "The best basis.");
        Desk desk = Checks.after(SMALL_AND_LARGE);
        int[] bests = {0, 0, 1, 0, 4095, 1};
        for (int m = 0; m < bests.length; m++) {
            Checks.due("best(" + m + ")", desk.one().best(m), bests[m]);
        }
        desk.run("weights f { -999 -998 };");
        Checks.due("best of weights below 0", desk.one().best(F), 2);
        Checks.due("best of no matroid", desk.one().best(Z), NONE);
    }

    private static void commonBounds() {
        Checks.says(17, "The common set; NONE also when they have not as many elements.");
        Desk desk = Checks.after(SMALL_AND_LARGE);
        int[] sizes = {0, 1, 1, 12, 12, 2};
        int[] with = {0, 0, 1, 0, 4095, 1};
        for (int m = 0; m < sizes.length; m++) {
            for (int n = 0; n < sizes.length; n++) {
                int due = m == n ? with[m] : sizes[m] == sizes[n] ? 0 : NONE;
                Checks.due("common(" + m + ", " + n + ")", desk.one().common(m, n), due);
            }
            Checks.due("common with no matroid", desk.one().common(m, Z), NONE);
            Checks.due("common of no matroid", desk.one().common(Z, m), NONE);
        }
    }

    private static void coverBounds() {
        Checks.says(18, "The cover; NONE likewise.");
        Desk desk = Checks.after(SMALL_AND_LARGE);
        int[] sizes = {0, 1, 1, 12, 12, 2};
        for (int m = 0; m < sizes.length; m++) {
            for (int n = 0; n < sizes.length; n++) {
                if (m == n || sizes[m] != sizes[n]) {
                    Checks.due("cover(" + m + ", " + n + ")", desk.one().cover(m, n), m == n ? 0 : NONE);
                }
            }
            Checks.due("cover with no matroid", desk.one().cover(m, Z), NONE);
            Checks.due("cover of no matroid", desk.one().cover(Z, m), NONE);
        }
        Checks.due("cover of loops, and free ones", desk.one().cover(D, E), 4095);
        Checks.due("cover of free ones, and loops", desk.one().cover(E, D), 0);
    }

    private static void signBounds() {
        Checks.says(19, "What the chirotope has for a set; 2 when it has not R elements (or others), or the matroid is not over "
            + "Q, or there is none.");
        Desk desk = Checks.after(SMALL_AND_LARGE + "g=matrix 2 1 { 1 }; h=matrix 251 0 { };");
        int[] bases = {0, 0, 1, 0, 4095, 1};
        for (int m = 0; m < bases.length; m++) {
            Checks.due("sign of a basis", desk.one().sign(m, bases[m]), 1);
            for (int far : Checks.FAR_NUMBERS) {
                Checks.due("sign of " + far, desk.one().sign(m, far), 2);
            }
        }
        for (int set = 0; set < 16; set++) {
            Checks.due("sign of " + set + " of nothing", desk.one().sign(A, set), set == 0 ? 1 : 2);
            Checks.due("sign of " + set + " of two", desk.one().sign(F, set), set == 1 || set == 2 ? 1 : 2);
        }
        Checks.due("sign of eleven", desk.one().sign(E, 4094), 2);
        Checks.due("sign of twelve, one of them behind the last", desk.one().sign(E, 8190), 2);
        Checks.due("sign of thirteen", desk.one().sign(E, 8191), 2);
        Checks.due("sign over 2", desk.one().sign(6, 1), 2);
        Checks.due("sign over 251, of no elements", desk.one().sign(7, 0), 2);
        for (int letter : Checks.NO_LETTERS) {
            Checks.due("sign, letter " + letter, desk.one().sign(letter, 0), 2);
        }
        Checks.due("sign of no matroid", desk.one().sign(Z, 0), 2);
    }

    private static void belowBounds() {
        Checks.says(20, "The set of the elements for which circuit i (in ORDER) has the sign -1; NONE also when there is none "
            + "such, or the matroid is not over Q.");
        Desk desk = Checks.after(SMALL_AND_LARGE + "g=matrix 2 2 { 1 1 }; h=matrix Q 4 { 0 1 1 -1 };");
        int[] circuits = {0, 1, 0, 12, 0, 1};
        for (int m = 0; m < circuits.length; m++) {
            for (int i = 0; i < circuits[m]; i++) {
                Checks.due("below(" + m + ", " + i + ")", desk.one().below(m, i), m == F ? 2 : 0);
            }
            Checks.due("below behind the last", desk.one().below(m, circuits[m]), NONE);
            for (int far : Checks.FAR_NUMBERS) {
                Checks.due("below of circuit " + far, desk.one().below(m, far), NONE);
            }
        }
        Checks.due("below over 2", desk.one().below(6, 0), NONE);
        // The circuits are {0}, {1 2}, {1 3}, {2 3}.
        int[] sets = {0, 4, 0, 0, NONE};
        for (int i = 0; i < sets.length; i++) {
            Checks.due("below of circuit " + i, desk.one().below(7, i), sets[i]);
        }
    }

    private static void contractedBounds() {
        Checks.says(21, "C of the witness for n as a minor of m; NONE also when it is none.");
        // Rows are hosts: a minor has neither a greater rank nor more elements beyond it.
        int[][] sets = {{0, NONE, NONE, NONE, NONE, NONE}, {0, 0, NONE, NONE, NONE, NONE}, {0, NONE, 0, NONE, NONE, NONE},
            {0, 0, NONE, 0, NONE, NONE}, {0, NONE, 0, NONE, 0, NONE}, {0, 2, 0, NONE, NONE, 0}};
        Desk desk = Checks.after(SMALL_AND_LARGE);
        for (int m = 0; m < sets.length; m++) {
            for (int n = 0; n < sets.length; n++) {
                Checks.due("contracted(" + m + ", " + n + ")", desk.one().contracted(m, n), sets[m][n]);
            }
            Checks.due("contracted, no matroid in it", desk.one().contracted(m, Z), NONE);
            Checks.due("contracted, in no matroid", desk.one().contracted(Z, m), NONE);
        }
    }

    private static void deletedBounds() {
        Checks.says(22, "D of the witness; NONE likewise.");
        int[][] sets = {{0, NONE, NONE, NONE, NONE, NONE}, {1, 0, NONE, NONE, NONE, NONE}, {1, NONE, 0, NONE, NONE, NONE},
            {4095, 4094, NONE, 0, NONE, NONE}, {4095, NONE, 4094, NONE, 0, NONE}, {3, 0, 2, NONE, NONE, 0}};
        Desk desk = Checks.after(SMALL_AND_LARGE);
        for (int m = 0; m < sets.length; m++) {
            for (int n = 0; n < sets.length; n++) {
                Checks.due("deleted(" + m + ", " + n + ")", desk.one().deleted(m, n), sets[m][n]);
            }
            Checks.due("deleted, no matroid in it", desk.one().deleted(m, Z), NONE);
            Checks.due("deleted, in no matroid", desk.one().deleted(Z, m), NONE);
        }
    }

    private static void imageBounds() {
        Checks.says(23, "The image of element e of n; NONE likewise, or when there is no such element.");
        Desk desk = Checks.after(SMALL_AND_LARGE);
        int[] sizes = {0, 1, 1, 12, 12, 2};
        boolean[][] minor = {{true, false, false, false, false, false}, {true, true, false, false, false, false},
            {true, false, true, false, false, false}, {true, true, false, true, false, false},
            {true, false, true, false, true, false}, {true, true, true, false, false, true}};
        for (int m = 0; m < sizes.length; m++) {
            for (int n = 0; n < sizes.length; n++) {
                for (int e = -1; e <= 13; e++) {
                    // In these all elements that are left are the first ones, and like one another.
                    int due = minor[m][n] && e >= 0 && e < sizes[n] ? e : NONE;
                    Checks.due("image(" + m + ", " + n + ", " + e + ")", desk.one().image(m, n, e), due);
                }
            }
            for (int far : Checks.FAR_NUMBERS) {
                Checks.due("image of element " + far, desk.one().image(m, m, far), NONE);
            }
            Checks.due("image, no matroid in it", desk.one().image(m, Z, 0), NONE);
            Checks.due("image, in no matroid", desk.one().image(Z, m, 0), NONE);
        }
    }

    private static void letters() {
        Checks.says(9, "Letters: 0 is a, 25 is z; others have no matroid.");
        StringBuilder script = new StringBuilder();
        for (int letter = 0; letter < 26; letter++) {
            script.append((char) ('a' + letter)).append("=uniform 0 ").append(letter % 13).append(";");
        }
        Desk desk = Checks.after(script.toString());
        for (int letter = 0; letter < 26; letter++) {
            Checks.due("elements(" + letter + ")", desk.one().elements(letter), letter % 13);
        }
        for (int letter : Checks.NO_LETTERS) {
            Checks.due("elements(" + letter + ")", desk.one().elements(letter), NONE);
            looksOfNone(desk.one(), letter);
            Checks.due("common with " + letter, desk.one().common(13, letter), NONE);
            Checks.due("cover with " + letter, desk.one().cover(13, letter), NONE);
            Checks.due("contracted with " + letter, desk.one().contracted(13, letter), NONE);
            Checks.due("deleted with " + letter, desk.one().deleted(13, letter), NONE);
            Checks.due("image with " + letter, desk.one().image(13, letter, 0), NONE);
        }
    }

    // Fourteen calls.
    private static void looksOfNone(MatroidDesk desk, int letter) {
        String of = " of letter " + letter;
        Checks.due("field" + of, desk.field(letter), NONE);
        Checks.due("rank" + of, desk.rank(letter, 0), NONE);
        Checks.due("count" + of, desk.count(letter, 0), NONE);
        Checks.due("member" + of, desk.member(letter, 0, 0), NONE);
        Checks.due("tutte" + of, desk.tutte(letter, 0, 0), 0);
        Checks.due("weight" + of, desk.weight(letter, 0), 0);
        Checks.due("best" + of, desk.best(letter), NONE);
        Checks.due("common" + of, desk.common(letter, letter), NONE);
        Checks.due("cover" + of, desk.cover(letter, 13), NONE);
        Checks.due("sign" + of, desk.sign(letter, 0), 2);
        Checks.due("below" + of, desk.below(letter, 0), NONE);
        Checks.due("contracted" + of, desk.contracted(letter, letter), NONE);
        Checks.due("deleted" + of, desk.deleted(letter, letter), NONE);
        Checks.due("image" + of, desk.image(letter, letter, 0), NONE);
    }

    private static void looksChangeNothing() {
        Checks.says(4, "A call that is refused changes nothing; one that throws neither.");
        MatroidDesk desk = new MatroidDesk();
        Checks.feedFilled(desk, "a=uniform 1 2; b=uniform 2 2; best a; rank z;");
        desk.run();
        Checks.feedFilled(desk, "rank ;");
        desk.run();
        Checks.feedFilled(desk, "rank a;");
        for (int far : new int[] {-1, 26, Integer.MAX_VALUE, Integer.MIN_VALUE}) {
            looksOfNone(desk, far);
            desk.rank(A, far);
            desk.count(A, far);
            desk.member(A, far, far);
            desk.tutte(A, far, far);
            desk.weight(A, far);
            desk.common(A, far);
            desk.cover(far, A);
            desk.sign(A, far);
            desk.below(A, far);
            desk.contracted(A, B);
            desk.image(A, A, far);
            Checks.endThrows(desk, far);
            desk.out(far);
        }
        Checks.due("place", desk.place(), 5);
        Checks.due("why", desk.why(), 1);
        Checks.due("printed", desk.printed(), 4);
        Checks.due("out(1)", desk.out(1), '0');
        Checks.due("contracted", desk.contracted(A, A), 0);
        Checks.due("elements", desk.elements(A), 2);
        Checks.due("bytes that came in", desk.end(7), 20);
        Checks.due("run of them", desk.run(), 1);
    }

    private static void fiveHundredAndTwelve() {
        Checks.says(2, "An object is used for at most 512 calls after it has been made");
        String script = "a=uniform 6 12;#" + "x".repeat(10180 - 16 - 15) + "\nrank a;rank b;";
        MatroidDesk desk = new MatroidDesk();
        // 509 calls, and three more.
        Desk.feed(desk, script.getBytes(StandardCharsets.ISO_8859_1));
        Checks.due("run, the 510th call", desk.run(), 2);
        Checks.due("why, the 511th call", desk.why(), 1);
        Checks.due("out, the 512th call", desk.out(0), '6');
    }
}
