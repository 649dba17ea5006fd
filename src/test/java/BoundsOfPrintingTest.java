import java.math.BigInteger;

/** PRINTING: each sentence of it, with what is empty, single, and as large as it can be. */
public final class BoundsOfPrintingTest {
    private static final String TWELVE = "{0 1 2 3 4 5 6 7 8 9 10 11}\n";

    public static void main(String[] args) {
        sets();
        rank();
        lists();
        tutteTerms();
        tutteCoefficients();
        tutteOrder();
        best();
        common();
        chirotope();
        signs();
        noMinor();
        minor();
        show();
        showFractions();
        showResidues();
        showLargest();
        Checks.finish();
    }

    private static void sets() {
        Checks.says(8, "A SET: {, its elements with a blank between, }.");
        Checks.prints("a=uniform 0 1; bases a; circuits a;", "{}\n{0}\n");
        Checks.prints("a=uniform 12 12; bases a; b=uniform 11 12; circuits b;", TWELVE + TWELVE);
        Checks.prints("a=matrix Q 12 { 0 0 0 0 0 0 0 0 0 1 0 0, 0 0 0 0 0 0 0 0 0 0 1 0 }; bases a;", "{9 10}\n");
        for (int e = 0; e < 12; e++) {
            Checks.prints("a=matrix Q 12 {" + " 0".repeat(e) + " 1" + " 0".repeat(11 - e) + " }; best a;", "{" + e + "}\n");
        }
    }

    private static void rank() {
        Checks.says(8, "rank: R.");
        for (int rank = 0; rank <= 12; rank++) {
            Checks.prints("a=uniform " + rank + " 12; rank a;", rank + "\n");
        }
        Checks.prints("a=uniform 0 0; rank a;", "0\n");
    }

    private static void lists() {
        Checks.says(8, "bases, circuits, cocircuits, flats: each in a line, in ORDER.");
        Checks.prints("a=uniform 0 0; bases a; circuits a; cocircuits a; flats a;", "{}\n{}\n");
        Checks.prints("a=uniform 0 2; bases a; circuits a; cocircuits a; flats a;", "{}\n{0}\n{1}\n{0 1}\n");
        Checks.prints("a=uniform 2 2; bases a; circuits a; cocircuits a; flats a;", "{0 1}\n{0}\n{1}\n{}\n{0}\n{1}\n{0 1}\n");
        Checks.prints("a=matrix 2 4 { 1 0 1 0, 0 1 1 0 }; bases a;", "{0 1}\n{0 2}\n{1 2}\n");
        Checks.prints("a=matrix 2 4 { 1 0 1 0, 0 1 1 0 }; circuits a;", "{3}\n{0 1 2}\n");
        Checks.prints("a=matrix 2 4 { 1 0 1 0, 0 1 1 0 }; cocircuits a;", "{0 1}\n{0 2}\n{1 2}\n");
        Checks.prints("a=matrix 2 4 { 1 0 1 0, 0 1 1 0 }; flats a;", "{3}\n{0 3}\n{1 3}\n{2 3}\n{0 1 2 3}\n");
        Checks.prints("a=uniform 2 4; bases a; circuits a;",
            "{0 1}\n{0 2}\n{0 3}\n{1 2}\n{1 3}\n{2 3}\n{0 1 2}\n{0 1 3}\n{0 2 3}\n{1 2 3}\n");
    }

    private static void tutteTerms() {
        Checks.says(8, "the coefficient, but 1 only if nothing else is there, x, y, each with ^ and how often if that is not 1; with "
            + "a blank between these ('2 x^3 y'); 0 never");
        Checks.prints("a=uniform 0 0; tutte a;", "1\n");
        Checks.prints("a=uniform 1 1; tutte a;", "x\n");
        Checks.prints("a=uniform 0 1; tutte a;", "y\n");
        Checks.prints("a=uniform 2 2; tutte a; a=uniform 0 2; tutte a;", "x^2\ny^2\n");
        Checks.prints("a=uniform 12 12; tutte a; a=uniform 0 12; tutte a;", "x^12\ny^12\n");
        String parts = "a=uniform 0 1; b=uniform 1 1; ";
        Checks.prints(parts + "c=sum a b; tutte c; c=sum c b; tutte c; c=sum c a; tutte c;", "x y\nx^2 y\nx^2 y^2\n");
        Checks.prints("a=uniform 6 6; b=uniform 0 6; c=sum b a; tutte c;", "x^6 y^6\n");
        Checks.prints("a=uniform 1 2; tutte a; b=uniform 1 3; tutte b; c=uniform 2 3; tutte c;", "x + y\nx + y^2 + y\nx^2 + x + y\n");
    }

    private static void tutteCoefficients() {
        Checks.says(8, "with ' + ' between: the coefficient, but 1 only if nothing else is there");
        Checks.prints("a=uniform 2 4; b=uniform 2 2; c=uniform 0 1; a=sum a b; a=sum a c; tutte a;",
            "x^4 y + 2 x^3 y + x^2 y^3 + 2 x^2 y^2\n");
        Checks.prints("a=uniform 6 12; tutte a;", "x^6 + 6 x^5 + 21 x^4 + 56 x^3 + 126 x^2 + 252 x"
            + " + y^6 + 6 y^5 + 21 y^4 + 56 y^3 + 126 y^2 + 252 y\n");
        Checks.prints("a=uniform 1 12; tutte a;", "x + y^11 + y^10 + y^9 + y^8 + y^7 + y^6 + y^5 + y^4 + y^3 + y^2 + y\n");
    }

    private static void tutteOrder() {
        Checks.says(8, "tutte: its terms, those with more x first, then with more y");
        // x + y twice over, and of four edges round with one across.
        Checks.prints("a=uniform 1 2; a=sum a a; tutte a;", "x^2 + 2 x y + y^2\n");
        Checks.prints("a=graph 4 { 0 1, 1 2, 2 3, 3 0, 0 2 }; tutte a;", "x^3 + 2 x^2 + 2 x y + x + y^2 + y\n");
        Checks.prints("a=graph 4 { 0 1, 0 2, 0 3, 1 2, 1 3, 2 3 }; tutte a;", "x^3 + 3 x^2 + 4 x y + 2 x + y^3 + 3 y^2 + 2 y\n");
    }

    private static void best() {
        Checks.says(8, "best: it.");
        Checks.prints("a=uniform 0 0; best a; a=uniform 0 5; best a; a=uniform 12 12; best a;", "{}\n{}\n" + TWELVE);
        Checks.prints("a=uniform 2 3; best a; weights a { -1 0 1 }; best a;", "{0 1}\n{1 2}\n");
    }

    private static void common() {
        Checks.says(8, "common: it, then the cover, in a line each.");
        Checks.prints("a=uniform 0 0; common a a;", "{}\n{}\n");
        Checks.prints("a=uniform 0 12; b=uniform 12 12; common a b; common b a; common b b;", "{}\n" + TWELVE + "{}\n{}\n" + TWELVE
            + "{}\n");
        Checks.prints("a=matrix Q 3 { 1 1 0, 0 0 1 }; b=matrix 5 3 { 1 0 0, 0 1 0 }; common a b; common b a;", "{0}\n{0 1}\n{0}\n{2}\n");
    }

    private static void chirotope() {
        Checks.says(8, "chirotope: for all sets of R in ORDER - 0 or +, without blanks.");
        Checks.prints("a=uniform 0 0; chirotope a; a=uniform 0 12; chirotope a; a=uniform 12 12; chirotope a;", "+\n+\n+\n");
        Checks.prints("a=uniform 1 12; chirotope a; a=uniform 11 12; chirotope a;", "++++++++++++\n++++++++++++\n");
        Checks.prints("a=matrix Q 4 { 1 0 1 -1, 0 1 1 0 }; chirotope a;", "++0-++\n");
        Checks.prints("a=matrix Q 3 { 0 -1 1 }; chirotope a; a=dual a; chirotope a;", "0+-\n++0\n");
        Checks.prints("a=uniform 6 12; chirotope a;", "+".repeat(924) + "\n");
    }

    private static void signs() {
        Checks.says(8, "signs: for each circuit in ORDER a line of - 0 + for each element.");
        Checks.prints("a=uniform 0 0; signs a; a=uniform 3 3; signs a;", "");
        Checks.prints("a=uniform 0 1; signs a; a=uniform 0 3; signs a;", "+\n+00\n0+0\n00+\n");
        Checks.prints("a=uniform 1 2; signs a; a=matrix Q 3 { 1 0 -2 }; signs a;", "+-\n0+0\n+0+\n");
        Checks.prints("a=matrix Q 12 { 1 0 0 0 0 0 0 0 0 0 0 1, 0 1 0 0 0 0 0 0 0 0 0 0, 0 0 1 1 1 1 1 1 1 1 1 0,"
            + "0 0 0 1 0 0 0 0 0 0 0 0, 0 0 0 0 1 0 0 0 0 0 0 0, 0 0 0 0 0 1 0 0 0 0 0 0, 0 0 0 0 0 0 1 0 0 0 0 0,"
            + "0 0 0 0 0 0 0 1 0 0 0 0, 0 0 0 0 0 0 0 0 1 0 0 0, 0 0 0 0 0 0 0 0 0 1 0 0, 0 0 0 0 0 0 0 0 0 0 1 0 }; signs a;",
            "+0000000000-\n");
    }

    private static void noMinor() {
        Checks.says(8, "minor: 'no'");
        Checks.prints("a=uniform 0 0; b=uniform 0 1; minor a b; c=uniform 1 1; minor b c; minor c b;", "no\nno\nno\n");
        Checks.prints("a=uniform 12 12; b=uniform 0 12; minor a b; minor b a; minor a a;", "no\nno\n{}\n{}\n0 1 2 3 4 5 6 7 8 9 10 11\n");
    }

    private static void minor() {
        Checks.says(8, "or C in a line, D in a line, and in a third the images with blanks between (a line with nothing, if there "
            + "are none)");
        Checks.prints("a=uniform 0 0; minor a a; b=uniform 1 2; minor b a;", "{}\n{}\n\n{}\n{0 1}\n\n");
        Checks.prints("a=uniform 12 12; b=uniform 0 0; minor a b;", "{}\n" + TWELVE + "\n");
        Checks.prints("a=uniform 1 2; b=uniform 0 1; minor a b; c=uniform 1 1; minor a c;", "{1}\n{}\n0\n{}\n{1}\n0\n");
        Checks.prints("a=matrix Q 12 { 1 0 0 0 0 0 0 0 0 0 0 0 }; b=matrix 2 12 { 0 0 0 0 0 0 0 0 0 0 0 1 }; minor a b;",
            "{}\n{}\n1 2 3 4 5 6 7 8 9 10 11 0\n");
        Checks.prints("a=uniform 6 12; b=uniform 1 3; minor a b;", "{3 4 5 6 7}\n{8 9 10 11}\n0 1 2\n");
    }

    private static void show() {
        Checks.says(8, "show: the rows of the SPACE that have 1 in the least place in which they are not 0, in which all others have "
            + "0, R of them, by rising places: numbers with blanks between");
        Checks.prints("a=uniform 0 0; show a; a=uniform 0 12; show a; a=matrix Q 2 { 0 0 }; show a;", "");
        Checks.prints("a=uniform 1 1; show a; a=matrix Q 1 { -999 }; show a;", "1\n1\n");
        Checks.prints("a=matrix Q 2 { 0 5, 3 0 }; show a; a=matrix Q 3 { 0 0 7 }; show a;", "1 0\n0 1\n0 0 1\n");
        Checks.prints("a=matrix Q 3 { 1 1 1, 2 2 3 }; show a; a=matrix Q 3 { 0 1 1, 0 1 2, 0 1 3 }; show a;", "1 1 0\n0 0 1\n0 1 0\n0 0 1\n");
        Checks.prints("a=matrix Q 2 { 1 2, 2 4, -3 -6 }; show a;", "1 2\n");
        StringBuilder unit = new StringBuilder();
        for (int row = 0; row < 12; row++) {
            unit.append("0 ".repeat(row)).append("1").append(" 0".repeat(11 - row)).append("\n");
        }
        Checks.prints("a=uniform 12 12; show a;", unit.toString());
    }

    private static void showFractions() {
        Checks.says(8, "of Q -?digits, or with / and a denominator above 1, in lowest terms");
        Checks.prints("a=matrix Q 4 { 2 1 -1 4 }; show a; a=matrix Q 4 { -2 1 -1 4 }; show a;", "1 1/2 -1/2 2\n1 -1/2 1/2 -2\n");
        Checks.prints("a=matrix Q 5 { 6 4 -9 -12 0 }; show a;", "1 2/3 -3/2 -2 0\n");
        Checks.prints("a=matrix Q 3 { 999 998 -998 }; show a; a=matrix Q 3 { 1 999 -999 }; show a;", "1 998/999 -998/999\n1 999 -999\n");
        Checks.prints("a=matrix Q 3 { 999 1 -999 }; show a; a=matrix Q 2 { -999 -1 }; show a;", "1 1/999 -1\n1 1/999\n");
    }

    private static void showResidues() {
        Checks.says(8, "residues from 0 up");
        Checks.prints("a=matrix 2 3 { 1 -1 2 }; show a; a=matrix 3 3 { 2 1 -1 }; show a;", "1 1 0\n1 2 1\n");
        Checks.prints("a=matrix 251 4 { 2 1 -1 251 }; show a; a=matrix 251 2 { -1 1 }; show a;", "1 126 125 0\n1 250\n");
        for (int inverse = 1; inverse < 7; inverse++) {
            int number = 1;
            while (number * inverse % 7 != 1) {
                number++;
            }
            Checks.prints("a=matrix 7 2 { " + number + " 1 }; show a;", "1 " + inverse + "\n");
        }
    }

    // What no number of 64 bits holds.
    private static void showLargest() {
        Checks.says(8, "of Q -?digits, or with / and a denominator above 1, in lowest terms");
        for (int size = 2; size <= 12; size++) {
            chain(size, 999, 998);
            chain(size, 998, 996);
            chain(size, 999, 666);
            chain(size, 512, 511);
            chain(size, 512, 768);
            chain(size, 64, 63);
            chain(size, 1, 999);
            chain(size, -1, 999);
            chain(size, 999, 1);
            chain(size, 960, 640);
            chain(size, -999, -999);
        }
    }

    // Of rows with two numbers each, one place further each time: what is in the last place is a power of their quotient.
    private static void chain(int size, int first, int second) {
        StringBuilder rows = new StringBuilder();
        StringBuilder due = new StringBuilder();
        for (int row = 0; row < size - 1; row++) {
            int behind = size - 2 - row;
            rows.append(row == 0 ? "" : ",").append(" 0".repeat(row)).append(" " + first + " " + second).append(" 0".repeat(behind));
            BigInteger top = BigInteger.valueOf(-second).pow(behind + 1).negate();
            BigInteger bottom = BigInteger.valueOf(first).pow(behind + 1);
            due.append("0 ".repeat(row)).append("1 ").append("0 ".repeat(behind)).append(quotient(top, bottom)).append("\n");
        }
        Checks.prints("a=matrix Q " + size + " {" + rows + " }; show a;", due.toString());
    }

    private static String quotient(BigInteger top, BigInteger bottom) {
        BigInteger common = bottom.signum() < 0 ? top.gcd(bottom).negate() : top.gcd(bottom);
        BigInteger below = bottom.divide(common);
        return top.divide(common) + (below.equals(BigInteger.ONE) ? "" : "/" + below);
    }
}
