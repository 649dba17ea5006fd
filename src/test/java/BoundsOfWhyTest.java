/** How great numbers may be in a statement, how many of them there may be, and WHY one can't be done: each with a test of its own. */
public final class BoundsOfWhyTest {
    private static final int NONE = MatroidDesk.NONE;
    private static final int A = 0;
    private static final int B = 1;
    private static final int D = 3;
    private static final String[] OF_ONE = {"rank", "bases", "circuits", "cocircuits", "flats", "tutte", "best", "chirotope",
        "signs", "show"};

    public static void main(String[] args) {
        matrixNumbers();
        matrixRows();
        residues();
        graphPoints();
        graphEdges();
        graphColumns();
        uniformNumbers();
        uniformRows();
        setElements();
        setsRise();
        weightsMany();
        endsAtFirst();
        whyNames();
        whyNumbers();
        whyTooMany();
        whyFields();
        otherFields();
        whyNotRational();
        whyUnequal();
        whyPrinted();
        printedExactly();
        firstWhyCounts();
        Checks.finish();
    }

    private static void good(boolean is, String script) {
        Checks.ends(script, is ? 1 : 0, is ? 0 : 2);
    }

    private static void matrixNumbers() {
        Checks.says(6, "F is Q or a prime, N 0 .. 12");
        for (int number = -999; number <= 999; number++) {
            good(number >= 0 && number <= 12, "a=matrix Q " + number + " { };");
            good(number >= 0 && number <= 12, "a=matrix 251 " + number + " { };");
        }
        for (int number : new int[] {-7, -2, -1, 0, 1, 4, 6, 9, 15, 25, 49, 91, 121, 169, 221, 247, 249, 250, 252, 253, 256, 257, 997}) {
            good(false, "a=matrix " + number + " 1 { 1 };");
        }
        for (int number : new int[] {2, 3, 5, 7, 11, 13, 17, 127, 131, 239, 241, 251}) {
            good(true, "a=matrix " + number + " 1 { 1 };");
        }
    }

    private static void matrixRows() {
        Checks.says(6, "rows of N numbers each, with , between them, 12 at most");
        for (int many = 1; many <= 14; many++) {
            good(many <= 12, "a=matrix Q 1 { 1" + ", 1".repeat(many - 1) + " };");
            good(many <= 12, "a=matrix 2 3 { 1 0 1" + ", 1 0 1".repeat(many - 1) + " };");
            good(many == 1 || many <= 12, "a=matrix 3 0 { " + ",".repeat(many - 1) + " };");
        }
        for (int size = 0; size <= 12; size++) {
            for (int many = 0; many <= 14; many++) {
                // No numbers at all are no row, and that is good for every N.
                good(many == size || many == 0, "a=matrix Q " + size + " {" + " 1".repeat(many) + " };");
                String row = " 1".repeat(size);
                good(many == size, "a=matrix 7 " + size + " {" + row + "," + " 1".repeat(many) + "," + row + " };");
            }
        }
        // As many numbers as are due, but not in each row.
        good(false, "a=matrix Q 2 { 1, 1 1 1 };");
        good(false, "a=matrix Q 2 { 1 1 1, 1 };");
        good(false, "a=matrix Q 2 { 1 1 1 1 };");
    }

    private static void residues() {
        Checks.says(4, "the SPACE that comes of them (as residues)");
        for (int number = -999; number <= 999; number++) {
            if (number % 37 == 0 || number % 251 == 0 || number > 990 || number < -990) {
                int residue = (number % 251 + 251) % 251;
                Checks.prints("a=matrix 251 2 { 1 " + number + " }; show a;", "1 " + residue + "\n");
                Checks.prints("a=matrix 2 2 { 1 " + number + " }; show a;", "1 " + (number & 1) + "\n");
                Checks.prints("a=matrix Q 2 { 1 " + number + " }; show a;", "1 " + number + "\n");
            }
        }
        Checks.prints("a=matrix 251 2 { -1 1 }; show a; b=matrix 251 2 { 250 2 }; show b;", "1 250\n1 249\n");
    }

    private static void graphPoints() {
        Checks.says(6, "graph V { edges }: V 1 .. 13");
        for (int number = -999; number <= 999; number++) {
            good(number >= 1 && number <= 13, "a=graph " + number + " { };");
            good(number >= 1 && number <= 13, "a=graph " + number + " { 0 0 };");
        }
    }

    private static void graphEdges() {
        Checks.says(6, "up to 12 edges with , between them (more: WHY 2)");
        for (int many = 1; many <= 14; many++) {
            good(many <= 12, "a=graph 13 { 0 12" + ", 0 12".repeat(many - 1) + " };");
        }
        Desk desk = Checks.after("a=graph 1 { }; b=graph 13 { 0 1,1 2,2 3,3 4,4 5,5 6,6 7,7 8,8 9,9 10,10 11,11 12 };");
        Checks.due("elements of no edges", desk.one().elements(A), 0);
        Checks.due("elements of twelve edges", desk.one().elements(B), 12);
        Checks.due("rank of a tree", desk.one().rank(B, 4095), 12);
        Checks.says(6, "each two numbers a, b of 0 .. V - 1");
        for (int number = -999; number <= 999; number++) {
            good(number >= 0 && number < 13, "a=graph 13 { " + number + " 0 };");
            good(number >= 0 && number < 13, "a=graph 13 { 0 " + number + " };");
            good(number == 0, "a=graph 1 { 0 0, 0 " + number + " };");
        }
    }

    private static void graphColumns() {
        Checks.says(4, "over Q, the SPACE that comes of one row for each number v below V, with -1 for each edge in which a is v, 1 "
            + "for each in which b is, and 0 for both and neither");
        Checks.prints("a=graph 1 { 0 0 }; rank a; circuits a; signs a;", "0\n{0}\n+\n");
        Checks.prints("a=graph 2 { 0 1, 0 1, 1 0, 1 1 }; show a; signs a;", "1 1 -1 0\n000+\n+-00\n+0+0\n0++0\n");
        Checks.prints("a=graph 3 { 0 1, 1 2, 2 0 }; show a; signs a; chirotope a;", "1 0 -1\n0 1 -1\n+++\n+-+\n");
        Checks.prints("a=graph 13 { 12 0, 0 12 }; show a; b=graph 4 { 0 1, 2 3 }; rank b; c=graph 13 { }; rank c;", "1 -1\n2\n0\n");
        // Nothing is left over of what was made before.
        Checks.prints("a=uniform 5 9; b=graph 3 { 0 1, 1 2, 2 0 }; c=graph 3 { 0 0, 0 1, 0 1 }; d=matrix Q 3 { 0 0 0 }; show c; show b;"
            + "show d; rank d;", "0 1 1\n1 0 -1\n0 1 -1\n0\n");
        Desk desk = Checks.after("a=graph 2 { 0 1 };");
        Checks.due("field of a graph", desk.one().field(A), 0);
    }

    private static void uniformNumbers() {
        Checks.says(6, "uniform R N: N 0 .. 12, R 0 .. N");
        for (int rank = -3; rank <= 15; rank++) {
            for (int size = -3; size <= 15; size++) {
                good(size >= 0 && size <= 12 && rank >= 0 && rank <= size, "a=uniform " + rank + " " + size + ";");
            }
        }
        for (int far : new int[] {-999, 999, 100, 256}) {
            good(false, "a=uniform " + far + " 12;");
            good(false, "a=uniform 0 " + far + ";");
            good(false, "a=uniform " + far + " " + far + ";");
        }
    }

    private static void uniformRows() {
        Checks.says(4, "of the rows that have e^k for element e, k from 0 up to R - 1 (0^0 is 1)");
        Checks.prints("a=uniform 1 3; show a; b=uniform 1 1; show b; c=uniform 2 2; show c;", "1 1 1\n1\n1 0\n0 1\n");
        // (1 1 1 1), (0 1 2 3): the first less the second, and the second.
        Checks.prints("a=uniform 2 4; show a; b=uniform 0 4; show b; c=uniform 0 0; show c;", "1 0 -1 -2\n0 1 2 3\n");
        Checks.prints("a=uniform 3 5; show a;", "1 0 0 1 3\n0 1 0 -3 -8\n0 0 1 3 6\n");
        Checks.prints("a=uniform 4 6; show a;", "1 0 0 0 -1 -4\n0 1 0 0 4 15\n0 0 1 0 -6 -20\n0 0 0 1 4 10\n");
        Checks.prints("a=uniform 11 12; show a;", lastOfTwelve());
        Desk desk = Checks.after("a=uniform 12 12; b=uniform 2 3;");
        Checks.due("rank of 12 of 12", desk.one().rank(A, 4095), 12);
        Checks.due("field of a uniform one", desk.one().field(A), 0);
        Checks.due("sign of 12 of 12", desk.one().sign(A, 4095), 1);
        Checks.due("sign of {1 2}", desk.one().sign(B, 6), 1);
    }

    // With eleven powers the sum of all twelve, each times a number of Pascal's triangle with the signs in turn, is 0.
    private static String lastOfTwelve() {
        StringBuilder rows = new StringBuilder();
        int[] binomials = {1, 11, 55, 165, 330, 462, 462, 330, 165, 55, 11};
        for (int row = 0; row < 11; row++) {
            rows.append("0 ".repeat(row)).append("1 ").append("0 ".repeat(10 - row));
            rows.append(row % 2 == 0 ? "" : "-").append(binomials[row]).append("\n");
        }
        return rows.toString();
    }

    private static void setElements() {
        Checks.says(6, "or elements of a set are none of the matroid's or do not rise");
        for (String verb : new String[] {"delete", "contract"}) {
            for (int number = -999; number <= 999; number++) {
                boolean there = number >= 0 && number < 12;
                Checks.ends("a=uniform 3 12; b=" + verb + " a { " + number + " };", there ? 2 : 1, there ? 0 : 2);
            }
            for (int size = 0; size <= 12; size++) {
                String made = "a=uniform 0 " + size + "; b=" + verb + " a { ";
                StringBuilder all = new StringBuilder();
                for (int e = 0; e < size; e++) {
                    all.append(e).append(' ');
                }
                Checks.ends(made + "};", 2, 0);
                Checks.ends(made + all + "};", 2, 0);
                Checks.ends(made + all + size + " };", 1, 2);
                Checks.ends(made + size + " };", 1, 2);
                Checks.ends(made + "-1 };", 1, 2);
            }
        }
    }

    private static void setsRise() {
        Checks.says(6, "delete y { set }, contract y { set }: elements as numbers, rising.");
        for (String verb : new String[] {"delete", "contract"}) {
            for (int first = 0; first < 4; first++) {
                for (int second = 0; second < 4; second++) {
                    boolean rise = first < second;
                    String script = "a=uniform 2 4; b=" + verb + " a { " + first + " " + second + " };";
                    Checks.ends(script, rise ? 2 : 1, rise ? 0 : 2);
                }
            }
            Checks.ends("a=uniform 2 4; b=" + verb + " a { 0 2 1 };", 1, 2);
            Checks.ends("a=uniform 2 4; b=" + verb + " a { 0 1 1 };", 1, 2);
            Checks.ends("a=uniform 2 4; b=" + verb + " a { -0 01 003 };", 2, 0);
        }
    }

    private static void weightsMany() {
        Checks.says(6, "weights y { numbers }: so many as it has elements.");
        for (int size = 0; size <= 12; size++) {
            for (int many = 0; many <= 14; many++) {
                String script = "a=uniform 0 " + size + "; weights a {" + " 5".repeat(many) + " };";
                Checks.ends(script, many == size ? 2 : 1, many == size ? 0 : 2);
            }
        }
        Desk desk = Checks.after("a=uniform 1 3; weights a { 1 2 3 }; weights a { 4 5 }; weights a { 6 7 8 };");
        int[] weights = {1, 2, 3};
        for (int e = 0; e < 3; e++) {
            Checks.due("weight of " + e, desk.one().weight(A, e), weights[e]);
        }
        desk.run("weights a { 4 5 6 7 };");
        Checks.due("weight of 0", desk.one().weight(A, 0), 1);
    }

    private static void endsAtFirst() {
        Checks.says(4, "Otherwise statements are DONE in order, up to the first that can't be.");
        Desk desk = Checks.after("a=uniform 1 2; rank a; a=uniform 9 2; rank a; b=uniform 1 2; rank z;");
        Checks.due("why is that of the first", desk.one().why(), 2);
        Checks.due("product", desk.product(), "1\n");
        Checks.due("what could not be made leaves what was there", desk.one().elements(A), 2);
        Checks.due("nothing behind it is made", desk.one().elements(B), NONE);
        Checks.prints("a=uniform 1 2; a=dual a; a=sum a a; a=delete a { 0 }; rank a; a=uniform 0 0; rank a;", "2\n0\n");
    }

    private static void whyNames() {
        Checks.says(6, "1 a name has no matroid");
        String made = "a=uniform 1 2; ";
        for (String verb : OF_ONE) {
            Checks.ends(made + verb + " a; " + verb + " b;", 2, 1);
        }
        for (String verb : new String[] {"common", "minor"}) {
            Checks.ends(made + verb + " a a; " + verb + " a b;", 2, 1);
            Checks.ends(made + verb + " b a;", 1, 1);
            Checks.ends(made + verb + " b b;", 1, 1);
        }
        for (String making : new String[] {"dual b", "copy b", "delete b { }", "contract b { }", "sum a b", "sum b a", "sum b b"}) {
            Checks.ends(made + "c=" + making + ";", 1, 1);
            // What is being made is not there yet.
            Checks.ends(made + "b=" + making + ";", 1, 1);
        }
        Checks.ends(made + "weights b { };", 1, 1);
        Checks.ends("rank a;", 0, 1);
    }

    private static void whyNumbers() {
        Checks.says(6, "2 numbers, or how many they are, are not as told (F no prime included)");
        Checks.ends("a=matrix 4 2 { 1 2 };", 0, 2);
        Checks.ends("a=matrix Q 13 { };", 0, 2);
        Checks.ends("a=matrix 4 13 { 1 , };", 0, 2);
        Checks.ends("a=graph 0 { };", 0, 2);
        Checks.ends("a=graph 2 { 0 2 };", 0, 2);
        Checks.ends("a=uniform 2 1;", 0, 2);
        Checks.ends("a=uniform 1 2; weights a { 1 };", 1, 2);
    }

    private static void whyTooMany() {
        Checks.says(6, "3 a sum would have more than 12 elements");
        for (int first = 0; first <= 12; first++) {
            for (int second = 0; second <= 12; second++) {
                boolean fits = first + second <= 12;
                Desk desk = Checks.after("a=uniform 0 " + first + "; b=uniform 0 " + second + "; d=sum a b;");
                Checks.due("why of " + first + " and " + second, desk.one().why(), fits ? 0 : 3);
                Checks.due("elements of " + first + " and " + second, desk.one().elements(D), fits ? first + second : NONE);
            }
        }
        Checks.ends("a=uniform 1 7; a=sum a a;", 1, 3);
        Checks.ends("a=uniform 1 6; a=sum a a; a=sum a a;", 2, 3);
    }

    private static void whyFields() {
        Checks.says(6, "4 the fields of a sum differ");
        String made = "a=uniform 0 0; b=matrix 2 0 { }; c=matrix 3 0 { }; d=matrix 2 1 { 1 }; e=matrix 251 12 { }; ";
        Checks.ends(made + "f=sum a b;", 5, 4);
        Checks.ends(made + "f=sum b a;", 5, 4);
        Checks.ends(made + "f=sum b c;", 5, 4);
        Checks.ends(made + "f=sum b d; f=sum a a; f=sum c c;", 8, 0);
        Checks.ends(made + "f=sum a e;", 5, 4);
        Checks.ends(made + "f=sum e a;", 5, 4);
        Checks.ends(made + "f=sum e e;", 5, 3);
    }

    private static void otherFields() {
        Checks.says(6, "(all else is told of different ones, too)");
        String made = "a=uniform 1 2; b=matrix 2 2 { 1 1 }; c=matrix 251 2 { 1 1 }; ";
        Checks.ends(made + "common a b; common b c; common c a; minor a b; minor b c; minor c a;", 9, 0);
        Checks.prints(made + "common b c; minor b c; minor c a;", "{0}\n{}\n{}\n{}\n0 1\n{}\n{}\n0 1\n");
        Desk desk = Checks.after(made);
        Checks.due("common", desk.one().common(B, A), 1);
        Checks.due("cover", desk.one().cover(B, A), 0);
        Checks.due("image", desk.one().image(B, A, 1), 1);
    }

    private static void whyNotRational() {
        Checks.says(6, "5 it is not over Q");
        for (String field : new String[] {"2", "3", "251"}) {
            String made = "a=matrix " + field + " 2 { 1 1 }; b=matrix " + field + " 0 { }; c=dual a; ";
            for (String verb : OF_ONE) {
                boolean ofSigns = verb.equals("chirotope") || verb.equals("signs");
                for (String name : new String[] {"a", "b", "c"}) {
                    Checks.ends(made + verb + " " + name + ";", ofSigns ? 3 : 4, ofSigns ? 5 : 0);
                }
            }
        }
        Checks.ends("a=matrix Q 0 { }; chirotope a; signs a;", 3, 0);
    }

    private static void whyUnequal() {
        Checks.says(6, "6 they have not as many elements");
        for (int first = 0; first <= 12; first++) {
            for (int second = 0; second <= 12; second++) {
                boolean same = first == second;
                String made = "a=uniform 0 " + first + "; b=matrix 3 " + second + " { }; ";
                Checks.ends(made + "common a b;", same ? 3 : 2, same ? 0 : 6);
                Checks.ends(made + "minor a b;", 3, 0);
            }
        }
    }

    /** Prints all sets of twelve elements, in 61441 bytes, and makes c, of one loop, and d, of nothing. */
    private static final String LONG = "a=uniform 12 12; b=uniform 1 12; c=uniform 0 1; d=uniform 0 0; flats a;";

    /** Of what is left 81 lists of b take 50 bytes each, and what is left then is 45. */
    private static final String LONGER = LONG + "bases b;".repeat(81);

    private static void whyPrinted() {
        Checks.says(6, "7 what was printed would be more than 65536 bytes");
        Desk desk = Checks.after(LONG + "rank c; flats a; rank c; e=copy c;");
        Checks.due("why", desk.one().why(), 7);
        Checks.due("printed", desk.one().printed(), 61441 + 2);
        Checks.due("byte behind what was done", desk.one().out(61443), NONE);
        Checks.due("nothing behind it is made", desk.one().elements(4), NONE);
        // The next script begins with an empty product.
        Checks.due("run behind it", desk.run("flats a;"), 1);
        Checks.due("why behind it", desk.one().why(), 0);
        Checks.due("printed behind it", desk.one().printed(), 61441);
        Checks.due("last byte", desk.one().out(61440), '\n');
    }

    private static void printedExactly() {
        Checks.says(6, "7 what was printed would be more than 65536 bytes");
        int before = 5 + 81;
        // rank takes two bytes, best of c three, show of c none.
        printed(LONGER + "rank c;".repeat(21) + "best c;", before + 22, 0, 65536);
        printed(LONGER + "rank c;".repeat(21) + "best c; show c; show d; signs d; circuits d;", before + 26, 0, 65536);
        printed(LONGER + "rank c;".repeat(21) + "best c; e=dual c; rank c; rank c;", before + 23, 7, 65536);
        printed(LONGER + "rank c;".repeat(22), before + 22, 0, 65535);
        printed(LONGER + "rank c;".repeat(22) + "rank c;", before + 22, 7, 65535);
        printed(LONGER + "rank c;".repeat(22) + "best c;", before + 22, 7, 65535);
        printed(LONGER + "rank c;".repeat(20) + "best c;best c;", before + 21, 7, 65536 - 2);
        printed(LONGER + "rank c;".repeat(20) + "best c;rank c;rank c;", before + 22, 7, 65536);
    }

    private static void printed(String script, int done, int why, int bytes) {
        Desk desk = new Desk();
        String tail = script.substring(LONGER.length());
        Checks.due("run of " + tail, desk.run(script), done);
        Checks.due("why of " + tail, desk.one().why(), why);
        Checks.due("printed by " + tail, desk.one().printed(), bytes);
        Checks.due("last byte of " + tail, desk.one().out(bytes - 1), '\n');
        Checks.due("byte behind " + tail, desk.one().out(bytes), NONE);
    }

    private static void firstWhyCounts() {
        Checks.says(6, "The first of these counts, in this order, for the first name before the second.");
        String made = "a=uniform 1 7; b=matrix 2 7 { }; c=matrix 3 6 { }; ";
        // 1 before 2
        Checks.ends(made + "d=delete z { 99 1 1 };", 3, 1);
        Checks.ends(made + "d=contract z { -1 };", 3, 1);
        Checks.ends(made + "weights z { 1 2 3 };", 3, 1);
        // 1 before 3, 4, 5, 6
        Checks.ends(made + "d=sum a z;", 3, 1);
        Checks.ends(made + "d=sum z a;", 3, 1);
        Checks.ends(made + "common z c;", 3, 1);
        Checks.ends(made + "common c z;", 3, 1);
        Checks.ends(made + "chirotope z;", 3, 1);
        // 3 before 4
        Checks.ends(made + "d=sum a b;", 3, 3);
        Checks.ends(made + "d=sum b c;", 3, 3);
        Checks.ends(made + "d=delete a { 0 }; d=sum d c;", 4, 4);
        // 5 and 6 before 7
        String full = LONGER + "rank c;".repeat(21) + "best c; e=matrix 2 3 { 1 1 1 };";
        Checks.ends(full + "rank c;", 5 + 81 + 23, 7);
        Checks.ends(full + "chirotope e;", 5 + 81 + 23, 5);
        Checks.ends(full + "signs e;", 5 + 81 + 23, 5);
        Checks.ends(full + "common a e;", 5 + 81 + 23, 6);
        Checks.ends(full + "rank z;", 5 + 81 + 23, 1);
    }
}
