/** The sentences of the document's terms that name boundary cases, each with a test of its own by the promise it is seen in. */
public final class BoundsOfTermsTest {
    private static final int NONE = MatroidDesk.NONE;
    private static final int A = 0;
    private static final int B = 1;
    private static final int C = 2;
    private static final int D = 3;
    private static final int BASES = 0;
    private static final int CIRCUITS = 1;
    private static final int COCIRCUITS = 2;
    private static final int FLATS = 3;

    /** Places where each of three lines meets each of three others. */
    private static final String GRID = "matrix Q 9 { -1 1 1 -1 -3 -4 2 0 -2, 0 0 0 -9 -1 2 3 -1 -6, -1 -1 0 5 2 1 0 -1 -3 }";

    /** Places where each of three lines meets the other two, each of three others likewise, and each its own one of the others. */
    private static final String PRISM = "matrix Q 9 { 9 -3 -3 -1 -1 2 -3 6 2, -5 -3 1 -1 -3 2 1 -2 3, 2 4 0 -1 -2 1 4 3 1 }";

    public static void main(String[] args) {
        fields();
        sizes();
        setsAsNumbers();
        ranks();
        bases();
        circuits();
        flats();
        duals();
        cocircuits();
        deleting();
        contracting();
        numberedAnew();
        sums();
        copies();
        madeOver();
        orderBySize();
        orderByElements();
        signsOfCircuits();
        signsOfLeast();
        chirotopes();
        chirotopesTurned();
        chirotopesOfMade();
        chirotopesOfNothing();
        tuttePolynomials();
        weightsWhenMade();
        bestBases();
        commonSets();
        covers();
        minors();
        minorsOfOtherRanks();
        witnessKept();
        witnessContracted();
        witnessImages();
        Checks.finish();
    }

    private static void fields() {
        Checks.says(10, "A FIELD is that of the rational numbers, Q, or of the residues of a prime from 2 to 251.");
        Desk desk = Checks.after("q=matrix Q 1 { 1 };");
        Checks.due("field of Q", desk.one().field(16), 0);
        for (int number = -999; number <= 999; number++) {
            desk = new Desk();
            boolean prime = isPrime(number) && number <= 251;
            Checks.due("run over " + number, desk.run("a=matrix " + number + " 1 { 1 };"), prime ? 1 : 0);
            Checks.due("why over " + number, desk.one().why(), prime ? 0 : 2);
            Checks.due("field over " + number, desk.one().field(A), prime ? number : NONE);
        }
        // The determinant is 251 over Q, 10 over 241, and 0 over 251.
        String rows = " 2 { 16 5, 1 16 }; ";
        Checks.prints("a=matrix Q" + rows + "b=matrix 251" + rows + "c=matrix 241" + rows + "rank a; rank b; rank c;", "2\n1\n2\n");
        Checks.prints("a=matrix Q 2 { 1 250, 1 -1 }; b=matrix 251 2 { 1 250, 1 -1 }; rank a; rank b;", "2\n1\n");
        Checks.prints("a=matrix Q 2 { 1 1, 1 -1 }; b=matrix 2 2 { 1 1, 1 -1 }; rank a; rank b;", "2\n1\n");
    }

    private static boolean isPrime(int number) {
        for (int divisor = 2; divisor < number; divisor++) {
            if (number % divisor == 0) {
                return false;
            }
        }
        return number >= 2;
    }

    private static void sizes() {
        Checks.says(9, "it has N ELEMENTS, 0 .. N - 1, N being 0 .. 12");
        for (int size = -999; size <= 999; size++) {
            boolean fits = size >= 0 && size <= 12;
            Desk desk = new Desk();
            Checks.due("run", desk.run("a=matrix Q " + size + " { }; b=uniform 0 " + size + ";"), fits ? 2 : 0);
            Checks.due("elements of the matrix", desk.one().elements(A), fits ? size : NONE);
            Checks.due("elements of the uniform", desk.one().elements(B), fits ? size : NONE);
        }
    }

    private static void setsAsNumbers() {
        Checks.says(13, "as a number a set is the sum of 2^e for its elements e");
        for (int e = 0; e < 12; e++) {
            StringBuilder row = new StringBuilder();
            for (int i = 0; i < 12; i++) {
                row.append(i == e ? " 1" : " 0");
            }
            Desk desk = Checks.after("a=matrix 3 12 {" + row + " };");
            Checks.lists(desk, A, BASES, 1 << e);
            Checks.due("rank of it", desk.one().rank(A, 1 << e), 1);
            Checks.due("rank of all others", desk.one().rank(A, 4095 ^ 1 << e), 0);
        }
    }

    private static void ranks() {
        Checks.says(11, "The RANK of a set is the dimension of the space of what the rows of the SPACE have in the places of the "
            + "set; R is the rank of all elements.");
        // More rows than elements; rows that are 0; rows that are one another's multiples; no rows.
        Desk desk = Checks.after("a=matrix Q 2 { 1 0, 0 1, 1 1, 2 3 }; b=matrix Q 2 { 0 0, 0 0 }; c=matrix Q 2 { 1 2, -2 -4 };"
            + "d=matrix Q 2 { };");
        int[][] due = {{0, 1, 1, 2}, {0, 0, 0, 0}, {0, 1, 1, 1}, {0, 0, 0, 0}};
        for (int m = 0; m < due.length; m++) {
            for (int set = 0; set < 4; set++) {
                Checks.due("rank(" + m + ", " + set + ")", desk.one().rank(m, set), due[m][set]);
            }
        }
        // Residues that are 0 but no numbers that are.
        Checks.prints("a=matrix 7 2 { 7 -14, 0 700 }; rank a; b=matrix 2 3 { 2 4 -6 }; rank b;", "0\n0\n");
        // 12 rows of 12 numbers as great as can be.
        StringBuilder rows = new StringBuilder();
        for (int row = 0; row < 12; row++) {
            rows.append(row == 0 ? "" : ",");
            for (int e = 0; e < 12; e++) {
                rows.append(e < row ? " -999" : " 999");
            }
        }
        Checks.prints("a=matrix Q 12 {" + rows + " }; rank a; b=matrix 2 12 {" + rows + " }; rank b;", "12\n1\n");
    }

    private static void bases() {
        Checks.says(13, "A set is INDEPENDENT when its rank is as many as it has; a BASIS is an independent one of R.");
        Desk desk = Checks.after("a=uniform 0 3; b=uniform 3 3; c=uniform 2 3; d=matrix Q 3 { 0 1 0 };");
        Checks.lists(desk, A, BASES, 0);
        Checks.lists(desk, B, BASES, 7);
        Checks.lists(desk, C, BASES, 3, 5, 6);
        Checks.lists(desk, D, BASES, 2);
    }

    private static void circuits() {
        Checks.says(13, "A CIRCUIT is a set that is not independent, though it is with any one element taken away.");
        Desk desk = Checks.after("a=uniform 0 3; b=uniform 3 3; c=uniform 1 3; d=matrix Q 4 { 0 1 0 1, 0 0 1 1 };");
        Checks.lists(desk, A, CIRCUITS, 1, 2, 4);
        Checks.lists(desk, B, CIRCUITS);
        Checks.lists(desk, C, CIRCUITS, 3, 5, 6);
        Checks.lists(desk, D, CIRCUITS, 1, 14);
        // The greatest circuit that there can be.
        desk = Checks.after("a=uniform 11 12;");
        Checks.lists(desk, A, CIRCUITS, 4095);
    }

    private static void flats() {
        Checks.says(13, "A FLAT is a set to which no other element can be added without its rank getting greater.");
        Desk desk = Checks.after("a=uniform 0 3; b=uniform 2 2; c=uniform 1 3; d=matrix Q 4 { 0 1 0 1, 0 0 1 1 };");
        Checks.lists(desk, A, FLATS, 7);
        Checks.lists(desk, B, FLATS, 0, 1, 2, 3);
        Checks.lists(desk, C, FLATS, 0, 7);
        Checks.lists(desk, D, FLATS, 1, 3, 5, 9, 15);
    }

    private static void duals() {
        Checks.says(4, "The DUAL of a matroid has for its SPACE the rows with which the rows of this one's SPACE have the "
            + "product 0 (the sum of the products in each place)");
        Checks.prints("a=uniform 0 0; b=dual a; rank b; show b;", "0\n");
        Checks.prints("a=uniform 0 2; b=dual a; show b; c=dual b; rank c; show c;", "1 0\n0 1\n0\n");
        Checks.prints("a=matrix Q 3 { 1 2 3 }; b=dual a; show b; c=dual b; show c;", "1 0 -1/3\n0 1 -2/3\n1 2 3\n");
        Checks.prints("a=matrix 2 3 { 1 1 1 }; b=dual a; show b;", "1 0 1\n0 1 1\n");
        Checks.prints("a=matrix 251 2 { 1 1 }; b=dual a; show b;", "1 250\n");
        Checks.prints("a=matrix 5 3 { 0 1 2 }; a=dual a; show a;", "1 0 0\n0 1 2\n");
        Checks.prints("a=uniform 5 12; b=dual a; rank b; b=dual b; rank b;", "7\n5\n");
    }

    private static void cocircuits() {
        Checks.says(13, "the dual's circuits are the COCIRCUITS");
        Desk desk = Checks.after("a=uniform 0 2; b=uniform 2 2; c=matrix Q 4 { 1 1 0 0, 0 0 1 0 }; d=dual c;");
        Checks.lists(desk, A, COCIRCUITS);
        Checks.lists(desk, B, COCIRCUITS, 1, 2);
        Checks.lists(desk, C, COCIRCUITS, 4, 3);
        Checks.lists(desk, D, CIRCUITS, 4, 3);
        Checks.lists(desk, D, COCIRCUITS, 8, 3);
    }

    private static void deleting() {
        Checks.says(4, "DELETING a set: of the rows what they have in the other places.");
        String a = "a=matrix Q 3 { 1 0 2, 0 1 3 }; ";
        Checks.prints(a + "b=delete a { }; show b;", "1 0 2\n0 1 3\n");
        Checks.prints(a + "b=delete a { 0 1 2 }; rank b; bases b; show b;", "0\n{}\n");
        Checks.prints(a + "b=delete a { 2 }; show b;", "1 0\n0 1\n");
        Checks.prints(a + "b=delete a { 0 }; show b;", "1 0\n0 1\n");
        // An element without which the rank is less; one that is 0 in all rows.
        Checks.prints("a=matrix Q 3 { 1 0 0, 0 1 2 }; b=delete a { 0 }; show b; c=delete a { 1 2 }; show c;", "1 2\n1\n");
        Checks.prints("a=matrix Q 3 { 0 1 2 }; b=delete a { 0 }; show b; c=delete a { 1 2 }; rank c;", "1 2\n0\n");
        Checks.prints("a=uniform 0 0; a=delete a { }; flats a;", "{}\n");
    }

    private static void contracting() {
        Checks.says(4, "CONTRACTING a set: of the rows that have 0 in all places of the set, what they have in the others.");
        String a = "a=matrix Q 3 { 1 0 2, 0 1 3 }; ";
        Checks.prints(a + "b=contract a { }; show b;", "1 0 2\n0 1 3\n");
        Checks.prints(a + "b=contract a { 0 1 2 }; rank b; bases b; show b;", "0\n{}\n");
        Checks.prints(a + "b=contract a { 0 1 }; rank b; circuits b;", "0\n{0}\n");
        Checks.prints(a + "b=contract a { 0 }; show b;", "1 3\n");
        Checks.prints(a + "b=contract a { 2 }; show b;", "1 -2/3\n");
        // One that is 0 in all rows; more of them than their rank; one that is in every basis.
        Checks.prints("a=matrix Q 3 { 0 1 2 }; b=contract a { 0 }; show b;", "1 2\n");
        Checks.prints("a=matrix Q 4 { 1 1 0 0, 0 0 1 5 }; b=contract a { 0 1 }; show b; c=contract a { 2 3 }; show c;",
            "1 5\n1 1\n");
        Checks.prints("a=matrix Q 3 { 1 0 0, 0 1 2 }; b=contract a { 0 }; show b;", "1 2\n");
        Checks.prints("a=matrix 3 3 { 1 0 2, 0 1 2 }; b=contract a { 2 }; show b;", "1 2\n");
        Checks.prints("a=uniform 0 0; a=contract a { }; flats a;", "{}\n");
    }

    private static void numberedAnew() {
        Checks.says(4, "In both the elements that are left are numbered anew, in their order.");
        String a = "a=matrix Q 5 { 1 2 3 4 5 }; ";
        Checks.prints(a + "b=delete a { 0 2 }; show b; c=delete a { 4 }; show c;", "1 2 5/2\n1 2 3 4\n");
        String b = "a=matrix Q 5 { 0 1 2 3 4, 1 0 0 0 0 }; ";
        Checks.prints(b + "b=contract a { 0 }; show b; c=delete a { 1 3 }; circuits c;", "1 2 3 4\n{1 2}\n");
        Desk desk = Checks.after("a=uniform 2 12; b=delete a { 0 1 2 3 4 5 6 7 8 }; c=contract a { 1 2 3 4 5 6 7 8 9 10 11 };");
        Checks.lists(desk, B, BASES, 3, 5, 6);
        Checks.lists(desk, C, CIRCUITS, 1);
    }

    private static void sums() {
        Checks.says(4, "THE SUM of two of the same field: a row of the first with a row of the second behind it.");
        String made = "a=matrix Q 2 { 1 2 }; b=matrix Q 3 { 0 1 5 }; z=uniform 0 0; ";
        Checks.prints(made + "c=sum a b; show c; d=sum b a; show d;", "1 2 0 0 0\n0 0 0 1 5\n0 1 5 0 0\n0 0 0 1 2\n");
        Checks.prints(made + "c=sum a z; show c; d=sum z a; show d; e=sum z z; rank e; flats e;", "1 2\n1 2\n0\n{}\n");
        Checks.prints(made + "a=sum a a; show a;", "1 2 0 0\n0 0 1 2\n");
        Checks.prints("a=uniform 0 6; b=uniform 6 6; c=sum a b; bases c; rank c;", "{6 7 8 9 10 11}\n6\n");
        Checks.prints("a=uniform 6 6; b=sum a a; bases b; circuits b; rank b;", "{0 1 2 3 4 5 6 7 8 9 10 11}\n12\n");
        Checks.prints("a=matrix 2 0 { }; b=matrix 2 12 { }; c=sum a b; rank c; d=sum b a; flats d;",
            "0\n{0 1 2 3 4 5 6 7 8 9 10 11}\n");
    }

    private static void copies() {
        Checks.says(4, "copy y: also its weights.");
        Checks.prints("a=matrix Q 3 { 2 1 0 }; b=copy a; a=uniform 0 0; show b; bases b; chirotope b; tutte b; rank a;",
            "1 1/2 0\n{0}\n{1}\n++0\nx y + y^2\n0\n");
        Checks.prints("a=matrix 5 2 { 2 1 }; a=copy a; show a; b=copy a; b=dual b; show a; show b;", "1 3\n1 3\n1 3\n");
        Checks.prints("a=uniform 0 0; b=copy a; flats b; a=uniform 12 12; b=copy a; bases b;",
            "{}\n{0 1 2 3 4 5 6 7 8 9 10 11}\n");
    }

    private static void madeOver() {
        Checks.says(4, "MAKING: a name, =, and one of");
        // c and d are there to be made of; what a was before it was made leaves nothing.
        String before = "c=matrix Q 3 { 1 0 2, 0 1 3 }; d=uniform 0 1; ";
        String[] makings = {"uniform 0 0", "uniform 0 3", "uniform 3 3", "uniform 1 2", "uniform 2 5", "matrix 2 3 { 1 1 1 }",
            "graph 3 { 0 1, 1 2, 2 0, 1 1 }", "dual c", "dual d", "delete c { 1 }", "contract c { 0 1 }", "sum c d", "sum d c",
            "copy c", "copy d"};
        String tell = " rank a; bases a; circuits a; cocircuits a; flats a; tutte a; best a; common a a; minor a a; show a;";
        for (String first : makings) {
            for (String second : makings) {
                String due = Checks.after(before + "a=" + second + ";" + tell).product();
                String over = "a=" + first + "; a=" + first + ";" + tell + " a=" + second + "; a=" + first + "; a=" + second + ";";
                Desk desk = Checks.after(before + over);
                desk.run(tell);
                Checks.due(over + tell, desk.product(), due);
            }
        }
    }

    private static void orderBySize() {
        Checks.says(13, "ORDER of sets: the one with fewer elements first");
        // As numbers 1, 2, 4 would stand among 3, 5, 6.
        Checks.lists(Checks.after("a=uniform 3 3;"), A, FLATS, 0, 1, 2, 4, 3, 5, 6, 7);
        Checks.lists(Checks.after("a=graph 3 { 0 1, 1 2, 2 0, 1 1 };"), A, CIRCUITS, 8, 7);
    }

    private static void orderByElements() {
        Checks.says(13, "of two with as many, the one that has the least element that only one of them has");
        // {0 3} is before {1 2}, though as a number it is greater.
        Checks.lists(Checks.after("a=uniform 2 4;"), A, BASES, 3, 5, 9, 6, 10, 12);
        Checks.lists(Checks.after("a=uniform 3 5;"), A, BASES, 7, 11, 19, 13, 21, 25, 14, 22, 26, 28);
        Checks.prints("a=matrix Q 12 { 0 0 1 0 0 0 0 0 0 0 1 0, 0 0 0 0 0 0 0 0 0 0 0 1 }; bases a;", "{2 11}\n{10 11}\n");
    }

    private static void signsOfCircuits() {
        Checks.says(20, "THE SIGNS of a circuit: of a row of the dual's SPACE that is not 0 in just the places of the circuit");
        // The same way, the other way; a loop; 0 + 1 = 2; 0 + 2 = 1.
        Checks.prints("a=matrix Q 2 { 1 1 }; signs a; b=matrix Q 2 { 1 -1 }; signs b; c=matrix Q 2 { 3 0 }; signs c;",
            "+-\n++\n0+\n");
        Checks.prints("a=matrix Q 3 { 1 0 1, 0 1 1 }; signs a; b=matrix Q 3 { 1 1 0, 0 1 1 }; signs b;", "++-\n+-+\n");
        Checks.prints("a=uniform 3 3; signs a; b=uniform 0 0; signs b;", "");
        // Every other one of the powers' determinants has the sign -1.
        Checks.prints("a=uniform 11 12; signs a;", "+-+-+-+-+-+-\n");
    }

    private static void signsOfLeast() {
        Checks.says(20, "times what makes it above 0 in its least place, the sign in each place");
        Desk desk = Checks.after("a=matrix Q 3 { -1 -1 1 }; b=matrix Q 4 { 0 -1 1 -1 }; c=uniform 0 2;");
        // {0 1}, {0 2}, {1 2}
        int[] ofA = {2, 0, 0};
        // {0}, {1 2}, {1 3}, {2 3}
        int[] ofB = {0, 0, 8, 0};
        for (int i = 0; i < 3; i++) {
            Checks.due("below(a, " + i + ")", desk.one().below(A, i), ofA[i]);
        }
        for (int i = 0; i < 4; i++) {
            Checks.due("below(b, " + i + ")", desk.one().below(B, i), ofB[i]);
        }
        Checks.due("below of a loop", desk.one().below(C, 1), 0);
    }

    private static void chirotopes() {
        Checks.says(19, "the sign (-1, 0, 1) of the determinant of what they have in the places of a set of R, in their order, for "
            + "each such set");
        // Places (1 0), (0 1), (1 1), (-1 0).
        Desk desk = Checks.after("a=matrix Q 4 { 1 0 1 -1, 0 1 1 0 };");
        int[] sets = {3, 5, 9, 6, 10, 12};
        int[] signs = {1, 1, 0, -1, 1, 1};
        for (int i = 0; i < sets.length; i++) {
            Checks.due("sign of " + sets[i], desk.one().sign(A, sets[i]), signs[i]);
        }
        Checks.prints("a=matrix Q 4 { 1 0 1 -1, 0 1 1 0 }; chirotope a;", "++0-++\n");
    }

    private static void chirotopesTurned() {
        Checks.says(19, "all of them turned round, if need be, so that the first in ORDER that is not 0 is 1");
        Checks.prints("a=matrix Q 2 { 0 1, 1 0 }; chirotope a; b=matrix Q 3 { 0 -1 1 }; chirotope b;", "+\n0+-\n");
        // The first that is not 0 is {0 3}, then {0 2}.
        Checks.prints("a=matrix Q 4 { 1 1 1 1, 0 0 0 -1 }; chirotope a; b=matrix Q 4 { 1 1 1 2, 0 0 1 1 }; chirotope b;",
            "00+0++\n0++++-\n");
        Desk desk = Checks.after("a=matrix Q 4 { 1 0 -1 0, 0 1 0 -1 }; b=matrix Q 4 { 0 1 0 -1, 1 0 -1 0 };"
            + "c=matrix Q 4 { 0 1 1 0, 1 1 1 -1 };");
        for (int set = 0; set < 16; set++) {
            Checks.due("sign of " + set, desk.one().sign(B, set), desk.one().sign(A, set));
        }
        // Places (0 1), (1 1), (1 1), (0 -1): {0 1} has -1, so all are turned round.
        int[] sets = {3, 5, 9, 6, 10, 12};
        int[] signs = {1, 1, 0, 0, 1, 1};
        for (int i = 0; i < sets.length; i++) {
            Checks.due("sign of " + sets[i], desk.one().sign(C, sets[i]), signs[i]);
        }
    }

    private static void chirotopesOfMade() {
        Checks.says(19, "all of them turned round, if need be, so that the first in ORDER that is not 0 is 1");
        String made = "a=matrix Q 4 { 1 0 1 -1, 0 1 1 0 }; ";
        Checks.prints(made + "b=copy a; chirotope b; b=dual a; show b; chirotope b;", "++0-++\n1 0 0 1\n0 1 -1 -1\n+--0-+\n");
        // Places (0 1), (1 1), (-1 0), then (1 1), (-1 0).
        Checks.prints(made + "b=delete a { 0 }; chirotope b; b=delete b { 0 }; chirotope b;", "+--\n+\n");
        Checks.prints(made + "b=contract a { 0 }; chirotope b; b=contract a { 1 }; chirotope b; b=contract a { 2 }; chirotope b;",
            "++0\n++-\n+--\n");
        Checks.prints(made + "b=contract a { 3 }; chirotope b; b=contract a { 0 1 }; chirotope b;", "0++\n+\n");
        Checks.prints("a=matrix Q 2 { 1 -1 }; b=sum a a; chirotope b; c=uniform 0 1; b=sum a c; chirotope b; b=sum c a; chirotope b;",
            "0+--+0\n+-0\n0+-\n");
    }

    private static void chirotopesOfNothing() {
        Checks.says(19, "(With R 0 it is 1 for the empty set.)");
        Desk desk = Checks.after("a=uniform 0 0; b=uniform 0 12; c=graph 3 { 1 1 };");
        for (int m = 0; m < 3; m++) {
            Checks.due("sign of the empty set", desk.one().sign(m, 0), 1);
            Checks.due("sign of one element", desk.one().sign(m, 1), 2);
        }
        Checks.prints("a=uniform 0 0; b=uniform 0 12; c=graph 3 { 1 1 }; chirotope a; chirotope b; chirotope c;", "+\n+\n+\n");
        // {1 2} has -1 in what it is taken from.
        desk = Checks.after("a=matrix Q 4 { 1 0 1 -1, 0 1 1 0 }; b=contract a { 1 2 }; c=delete b { 0 1 }; d=contract a { 0 1 2 3 };");
        Checks.due("sign of {1 2}", desk.one().sign(A, 6), -1);
        for (int m = B; m <= D; m++) {
            Checks.due("sign of the empty set of " + m, desk.one().sign(m, 0), 1);
        }
    }

    private static void tuttePolynomials() {
        Checks.says(14, "the sum over all sets S, of rank s, of (x - 1)^(R - s) (y - 1)^(|S| - s)");
        Desk desk = Checks.after("a=uniform 1 2; b=uniform 6 12; c=uniform 1 12; d=uniform 11 12;");
        Checks.due("x of two parallel", desk.one().tutte(A, 1, 0), 1);
        Checks.due("y of two parallel", desk.one().tutte(A, 0, 1), 1);
        Checks.due("1 of two parallel", desk.one().tutte(A, 0, 0), 0);
        // Of n elements and rank r: x^i has n - i - 1 over r - i, y^j has n - j - 1 over r - 1.
        int[] coefficients = {0, 252, 126, 56, 21, 6, 1};
        for (int i = 0; i <= 6; i++) {
            Checks.due("x^" + i, desk.one().tutte(B, i, 0), coefficients[i]);
            Checks.due("y^" + i, desk.one().tutte(B, 0, i), coefficients[i]);
        }
        for (int i = 1; i <= 11; i++) {
            Checks.due("y^" + i + " of rank 1", desk.one().tutte(C, 0, i), 1);
            Checks.due("x^" + i + " of rank 11", desk.one().tutte(D, i, 0), 1);
        }
        Checks.due("x of rank 1", desk.one().tutte(C, 1, 0), 1);
        Checks.due("y of rank 11", desk.one().tutte(D, 0, 1), 1);
    }

    private static void weightsWhenMade() {
        Checks.says(15, "WEIGHTS of elements, -999 .. 999, are 0 when a matroid is made.");
        Desk desk = Checks.after("a=uniform 1 2; weights a { -999 999 };");
        Checks.due("the least weight", desk.one().weight(A, 0), -999);
        Checks.due("the greatest weight", desk.one().weight(A, 1), 999);
        String[] makings = {"dual a", "delete a { }", "contract a { }", "sum a a", "uniform 1 2", "matrix Q 2 { }", "graph 2 { 0 1, 0 1 }"};
        for (String making : makings) {
            // In another place; in its own; and where one with weights is made over.
            desk = Checks.after("a=uniform 1 2; weights a { -999 999 }; c=copy a; b=" + making + "; c=" + making + "; a=" + making
                + ";");
            for (int e = 0; e < 2; e++) {
                Checks.due("weight of b=" + making, desk.one().weight(B, e), 0);
                Checks.due("weight of c=" + making, desk.one().weight(C, e), 0);
                Checks.due("weight of a=" + making, desk.one().weight(A, e), 0);
            }
        }
        Checks.says(15, "copy y: also its weights.");
        desk = Checks.after("a=uniform 1 2; b=copy a; weights a { -999 999 }; c=copy a; a=copy a; weights c { 5 6 }; d=copy c;");
        int[][] weights = {{-999, 999}, {0, 0}, {5, 6}, {5, 6}};
        for (int m = 0; m < weights.length; m++) {
            for (int e = 0; e < 2; e++) {
                Checks.due("weight(" + m + ", " + e + ")", desk.one().weight(m, e), weights[m][e]);
            }
        }
    }

    private static void bestBases() {
        Checks.says(16, "THE BEST basis: of those with the greatest sum of weights the first in ORDER.");
        best("uniform 2 4", "0 0 0 0", 3);
        best("uniform 2 4", "0 0 0 1", 9);
        best("uniform 2 4", "-1 0 0 -1", 6);
        best("uniform 2 4", "1 2 2 1", 6);
        best("matrix Q 4 { 1 1 0 0, 0 0 1 1 }", "1 1 1 1", 5);
        best("matrix Q 4 { 1 1 0 0, 0 0 1 1 }", "1 2 2 2", 6);
        best("graph 3 { 0 1, 0 1, 1 2, 2 2 }", "-999 -999 -999 999", 5);
        best("uniform 12 12", "-999 -999 -999 -999 -999 -999 -999 -999 -999 -999 -999 -999", 4095);
        best("uniform 1 12", "-999 -999 -999 -999 -999 -999 -999 -999 -999 -999 -999 -998", 2048);
        best("uniform 11 12", "999 999 999 999 999 999 999 999 999 999 999 999", 2047);
        best("uniform 0 2", "999 999", 0);
        best("uniform 0 0", "", 0);
        // Not the heaviest elements alone: 0 and 1 are parallel.
        best("matrix Q 3 { 1 1 0, 0 0 1 }", "9 8 -9", 5);
    }

    private static void best(String making, String weights, int set) {
        Desk desk = Checks.after("a=" + making + "; weights a { " + weights + " };");
        Checks.due("best of " + making + " with " + weights, desk.one().best(A), set);
    }

    private static void commonSets() {
        Checks.says(17, "THE COMMON set is the first in ORDER of the largest sets that are independent in both.");
        common("uniform 0 0", "uniform 0 0", 0);
        common("uniform 0 3", "uniform 3 3", 0);
        common("uniform 3 3", "uniform 3 3", 7);
        common("uniform 1 3", "uniform 2 3", 1);
        // Each has a loop that the other has not.
        common("matrix Q 3 { 0 1 0, 0 0 1 }", "matrix 2 3 { 1 0 0, 0 1 0 }", 2);
        common("matrix Q 2 { 1 0 }", "matrix Q 2 { 0 1 }", 0);
        // {0 3} and {1 2} are common, {0 1}, {0 2}, {1 3}, {2 3} are not.
        common("matrix Q 4 { 1 1 0 0, 0 0 1 1 }", "matrix 3 4 { 1 0 1 0, 0 1 0 1 }", 9);
        common("matrix 251 4 { 1 1 0 0, 0 0 1 1 }", "matrix 2 4 { 1 1 1 0, 0 0 0 1 }", 9);
        // {0} is independent in both, too, and can't be made greater, for 0 is parallel to 1 here and to 2 there.
        common("matrix Q 3 { 1 1 0, 0 0 1 }", "matrix Q 3 { 1 0 1, 0 1 0 }", 6);
        common("uniform 12 12", "uniform 12 12", 4095);
    }

    private static void common(String first, String second, int set) {
        Desk desk = Checks.after("a=" + first + "; b=" + second + ";");
        Checks.due("common of " + first + " and " + second, desk.one().common(A, B), set);
        Checks.due("common of " + second + " and " + first, desk.one().common(B, A), set);
    }

    private static void covers() {
        Checks.says(18, "THE COVER is the set A which, of all for which the rank of A in the first and the rank of all others in "
            + "the second make as much as the common set has, is within all others (there is one).");
        cover("uniform 0 0", "uniform 0 0", 0);
        cover("uniform 0 3", "uniform 3 3", 7);
        cover("uniform 3 3", "uniform 0 3", 0);
        cover("uniform 3 3", "uniform 3 3", 0);
        cover("uniform 1 3", "uniform 2 3", 7);
        cover("uniform 2 3", "uniform 1 3", 0);
        // 0 and 1 are parallel in the first, 2 is a loop in the second.
        cover("matrix Q 3 { 1 1 0, 0 0 1 }", "matrix 5 3 { 1 0 0, 0 1 0 }", 3);
        cover("matrix 5 3 { 1 0 0, 0 1 0 }", "matrix Q 3 { 1 1 0, 0 0 1 }", 4);
        cover("matrix Q 2 { 1 0 }", "matrix Q 2 { 0 1 }", 2);
        cover("matrix Q 2 { 0 1 }", "matrix Q 2 { 1 0 }", 1);
        cover("uniform 12 12", "uniform 11 12", 0);
        cover("uniform 11 12", "uniform 12 12", 4095);
    }

    private static void cover(String first, String second, int set) {
        Desk desk = Checks.after("a=" + first + "; b=" + second + ";");
        Checks.due("cover of " + first + " and " + second, desk.one().cover(A, B), set);
    }

    private static void minors() {
        Checks.says(21, "A matroid P is a MINOR of M when there are sets C and D of M that have none together, such that with C "
            + "contracted and D deleted the elements K that are left can be given to those of P, one to one");
        minor("uniform 0 0", "uniform 0 0", 0, 0);
        minor("uniform 6 12", "uniform 0 0", 0, 4095);
        minor("uniform 6 12", "uniform 6 12", 0, 0);
        minor("uniform 6 12", "uniform 6 11", 0, 2048);
        minor("uniform 6 12", "uniform 5 11", 2048, 0);
        minor("uniform 6 12", "uniform 0 1", 2 + 4 + 8 + 16 + 32 + 64, 4095 - 127);
        minor("uniform 6 12", "uniform 1 1", 0, 4094);
        minor("uniform 6 12", "uniform 0 6", 64 * 63, 0);
        minor("uniform 6 12", "uniform 6 6", 0, 64 * 63);
        noMinor("uniform 6 12", "uniform 0 7");
        noMinor("uniform 6 12", "uniform 7 7");
        noMinor("uniform 1 1", "uniform 1 2");
        noMinor("uniform 0 0", "uniform 0 1");
        noMinor("uniform 0 0", "uniform 1 1");
        noMinor("uniform 0 12", "uniform 1 1");
        noMinor("uniform 12 12", "uniform 0 1");
        // Of the residues of 2 no four are in two dimensions without two that are parallel; of those of 3 there are.
        noMinor("matrix 2 7 { 1 0 0 1 1 0 1, 0 1 0 1 0 1 1, 0 0 1 0 1 1 1 }", "uniform 2 4");
        minor("matrix 3 4 { 1 0 1 1, 0 1 1 2 }", "uniform 2 4", 0, 0);
        noMinor("matrix 3 4 { 1 0 1 1, 0 1 1 2 }", "uniform 2 5");
    }

    private static void minor(String host, String guest, int contracted, int deleted) {
        Desk desk = Checks.after("a=" + host + "; b=" + guest + ";");
        Checks.due("contracted for " + guest + " in " + host, desk.one().contracted(A, B), contracted);
        Checks.due("deleted for " + guest + " in " + host, desk.one().deleted(A, B), deleted);
    }

    private static void noMinor(String host, String guest) {
        minor(host, guest, NONE, NONE);
        Desk desk = Checks.after("a=" + host + "; b=" + guest + ";");
        Checks.due("image of " + guest + " in " + host, desk.one().image(A, B, 0), NONE);
    }

    private static void minorsOfOtherRanks() {
        Checks.says(23, "so that sets of P have the ranks of their images' sets there");
        // As many elements, and the same rank, but others are parallel, or loops.
        noMinor("matrix Q 4 { 1 1 0 0, 0 0 1 1 }", "uniform 2 4");
        noMinor("uniform 2 4", "matrix Q 4 { 1 1 0 0, 0 0 1 1 }");
        noMinor("matrix Q 4 { 1 1 0 0, 0 0 1 1 }", "matrix Q 4 { 1 1 1 0, 0 0 0 1 }");
        noMinor("matrix Q 4 { 1 1 1 0, 0 0 0 1 }", "matrix Q 4 { 1 1 0 0, 0 0 1 0 }");
        // Six in three dimensions, with two lines of three: they have a place together, or not.
        String crossed = "matrix Q 6 { 1 0 1 0 1 1, 0 1 1 0 0 2, 0 0 0 1 1 3 }";
        String apart = "matrix Q 6 { 1 0 1 0 1 1, 0 1 1 0 2 2, 0 0 0 1 1 2 }";
        noMinor(crossed, apart);
        noMinor(apart, crossed);
        minor(crossed, crossed, 0, 0);
        minor(apart, apart, 0, 0);
        // Every element of both is in as many bases, and with as many others on a line.
        noMinor(GRID, PRISM);
        noMinor(PRISM, GRID);
    }

    private static void witnessKept() {
        Checks.says(21, "of all such K the first in ORDER");
        // 0 is a loop, so what is kept begins at 1; 3 is parallel to 1.
        String host = "matrix Q 5 { 0 1 0 1 0, 0 0 1 0 0 }";
        minor(host, "uniform 1 1", 0, 31 - 2);
        minor(host, "uniform 2 2", 0, 31 - 6);
        minor(host, "uniform 1 2", 0, 31 - 10);
        minor(host, "uniform 0 2", 8, 31 - 3 - 8);
        minor(host, "uniform 0 1", 0, 30);
        // {0 3} comes before {1 2} when both will do.
        minor("matrix Q 4 { 1 0 0 1, 0 1 1 0 }", "uniform 1 2", 0, 6);
        // Eleven alike and one not: a search that gives images before it looks at ranks would not end here.
        String loops = "matrix Q 12 { 0 1 0 0 0 0 0 0 0 0 0 0 }";
        minor(loops, "uniform 0 10", 0, 2 + 2048);
        minor(loops + "; a=dual a", "uniform 10 10", 0, 2 + 2048);
    }

    private static void witnessContracted() {
        Checks.says(21, "for it the first C in ORDER");
        // For {0} to be a loop, {1 2} or {3} can go; {3} has fewer.
        minor("matrix Q 4 { 1 1 0 1, 0 1 1 0 }", "uniform 0 1", 8, 6);
        // {1} and {2} can go: the first of them.
        minor("uniform 1 3", "uniform 0 1", 2, 4);
        // {1 4} comes before {2 3}, though as a number it is greater: with both 0 is dependent, with {1 2}, {1 3} not.
        minor("matrix Q 5 { 1 1 1 0 0, 1 0 1 0 1, 1 0 0 1 1 }", "uniform 0 1", 2 + 16, 4 + 8);
        // Loops are never contracted, for without them it is the same.
        minor("matrix Q 3 { 1 0 0 }", "uniform 1 1", 0, 6);
        minor("uniform 0 12", "uniform 0 11", 0, 2048);
        minor("uniform 12 12", "uniform 11 11", 0, 2048);
    }

    private static void witnessImages() {
        Checks.says(23, "for these the images (of element 0, 1, ..) that come first: a less one for the first element for which "
            + "they differ");
        images("uniform 3 5", "uniform 2 4", 0, 1, 2, 3);
        images("matrix Q 2 { 1 0 }", "matrix Q 2 { 0 1 }", 1, 0);
        images("matrix Q 2 { 1 0 }", "matrix 7 2 { 1 0 }", 0, 1);
        images("matrix Q 4 { 1 1 0 0, 0 0 1 1 }", "matrix Q 4 { 1 0 1 0, 0 1 0 1 }", 0, 2, 1, 3);
        images("matrix Q 4 { 1 0 0 1, 0 1 1 0 }", "matrix Q 4 { 1 1 0 0, 0 0 1 1 }", 0, 3, 1, 2);
        // The images have the numbers that they have in the first: 0, 2 and 5 are loops there.
        images("matrix Q 6 { 0 1 0 1 0 0, 0 0 0 0 1 0 }", "matrix Q 3 { 1 0 0, 0 1 1 }", 4, 1, 3);
        images(GRID, "matrix Q 9 { 0 -3 -2 -1 1 2 -4 -1 1, -1 -1 -6 -9 0 3 2 0 0, -1 2 -3 5 0 0 1 -1 -1 }",
            0, 1, 3, 7, 5, 6, 4, 8, 2);
        images(PRISM, "matrix Q 9 { 2 -3 -1 6 -3 -3 -1 9 2, 3 1 -3 -2 -3 1 -1 -5 2, 1 4 -2 3 4 0 -1 2 1 }",
            0, 1, 2, 3, 8, 5, 6, 7, 4);
        // 0 is like 2 there, and not like 0 or 1, though only far more elements tell.
        images(PRISM, "matrix Q 9 { -3 2 9 2 -3 6 -1 -3 -1, 1 3 -5 2 -3 -2 -1 1 -3, 0 1 2 1 4 3 -1 4 -2 }",
            2, 3, 6, 5, 7, 1, 8, 0, 4);
        images("uniform 12 12", "uniform 12 12", 0, 1, 2, 3, 4, 5, 6, 7, 8, 9, 10, 11);
        images("matrix Q 12 { 0 0 0 0 0 0 0 0 0 0 0 1 }", "matrix Q 12 { 1 0 0 0 0 0 0 0 0 0 0 0 }",
            11, 0, 1, 2, 3, 4, 5, 6, 7, 8, 9, 10);
    }

    private static void images(String host, String guest, int... images) {
        Desk desk = Checks.after("a=" + host + "; b=" + guest + ";");
        for (int e = 0; e < images.length; e++) {
            Checks.due("image of " + e + " of " + guest + " in " + host, desk.one().image(A, B, e), images[e]);
        }
        Checks.due("image behind the last", desk.one().image(A, B, images.length), NONE);
    }
}
