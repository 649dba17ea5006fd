/** What stands behind "==== SCRIPTS": tokens, statements, and where a script is refused; each sentence with a test of its own. */
public final class BoundsOfScriptsTest {
    private static final int NONE = MatroidDesk.NONE;
    private static final int A = 0;

    private static final String[] MAKINGS = {"matrix", "graph", "uniform", "dual", "delete", "contract", "sum", "copy"};
    private static final String[] OTHERS = {"weights", "rank", "bases", "circuits", "cocircuits", "flats", "tutte", "best",
        "common", "chirotope", "signs", "minor", "show"};

    /** One token of each kind: names and words, numbers, signs, and such as are none. */
    private static final String[] KINDS = {"a", "z", "dual", "rank", "Q", "A", "xy", "7", "-7", "{", "}", ",", "=", ";",
        "!", "1234", "-", "\u00e9"};

    public static void main(String[] args) {
        blanks();
        comments();
        longestTokens();
        numbers();
        numbersTooLong();
        signs();
        statementsEnd();
        statementsAtMost();
        names();
        words();
        rowsEmpty();
        everyToken();
        everyEnd();
        numbersOfEdges();
        numbersNoMatter();
        firstOfTwoPlaces();
        Checks.finish();
    }

    private static void blanks() {
        Checks.says(4, "BLANKS: 32, 10, 13, 9, and # with all up to the next 10 or the end.");
        for (int c = 0; c < 256; c++) {
            String one = String.valueOf((char) c);
            boolean blank = c == 32 || c == 10 || c == 13 || c == 9;
            Desk desk = new Desk();
            // Behind a # all that follows is a blank.
            int done = blank ? 2 : c == '#' ? 1 : NONE;
            Checks.due("run with byte " + c, desk.run("a=uniform 1 2;" + one + one + "rank" + one + "a;" + one), done);
            desk = new Desk();
            Checks.due("run of byte " + c, desk.run(one), blank || c == '#' ? 0 : NONE);
            // A small letter can begin a statement, which then lacks the rest.
            int place = blank || c == '#' ? NONE : c >= 'a' && c <= 'z' ? 1 : 0;
            Checks.due("place of byte " + c, desk.one().place(), place);
        }
        Checks.ends("", 0, 0);
        Checks.ends("\t\r\n ", 0, 0);
    }

    private static void comments() {
        Checks.says(4, "BLANKS: 32, 10, 13, 9, and # with all up to the next 10 or the end.");
        for (int c = 0; c < 256; c++) {
            Desk desk = new Desk();
            String one = String.valueOf((char) c);
            Checks.due("run of # and byte " + c, desk.run("#" + one + "?"), c == 10 ? NONE : 0);
            Checks.due("place behind # and byte " + c, desk.one().place(), c == 10 ? 2 : NONE);
        }
        Checks.ends("#", 0, 0);
        Checks.ends("##\n#", 0, 0);
        Checks.ends("#\n#\n", 0, 0);
        Checks.ends("a=uniform 1 2;#", 1, 0);
        Checks.ends("a#?\n=#?\nuniform#?\n1#?\n2#?\n;#?\n", 1, 0);
        // It parts tokens as a blank does.
        Checks.refused("a=uni#\nform 1 2;", 2);
        Checks.ends("a=uniform#\n1#\n2;", 1, 0);
    }

    private static void longestTokens() {
        Checks.says(5, "TOKENS, the longest that there is: words of letters a-z, A-Z");
        for (char letter = 'a'; letter <= 'z'; letter++) {
            for (char one : new char[] {letter, Character.toUpperCase(letter)}) {
                Checks.refused("rank" + one + " a;", 0);
                Checks.refused("rank a" + one + ";", 5);
                Checks.refused("a=matrix Q" + one + " 0 { };", 9);
            }
        }
        Checks.refused("ranka;", 0);
        Checks.refused("rank aa;", 5);
        Checks.refused("rank aQ;", 5);
        Checks.refused("a=matrix Qq 2 { };", 9);
        Checks.refused("a=dualb;", 2);
        // What is no letter ends a word, what is no digit a number.
        Checks.prints("a=matrix Q3{1 2 3,4 5 6};rank#\na;", "2\n");
        Checks.prints("a=uniform0-0;rank a;", "0\n");
        Checks.prints("a=matrix Q 2{1-2};show a;b=matrix Q 3{1-2-3};show b;", "1 -2\n1 -2 -3\n");
        Checks.ends("a=matrix 2 2{};b=matrix 3-0{};c=copy a;", 3, 0);
        Checks.refused("a=matrix Q 2 { 12a };", 17);
        Checks.refused("a=uniform 1x2;", 11);
    }

    private static void numbers() {
        Checks.says(4, "numbers: - or nothing, and 1 to 3 digits, with no digit behind (-0 and 00 are 0, 007 is 7)");
        String[] written = {"0", "00", "000", "-0", "-00", "-000", "7", "07", "007", "-7", "-07", "-007", "010", "-010", "999",
            "-999", "100", "099"};
        int[] values = {0, 0, 0, 0, 0, 0, 7, 7, 7, -7, -7, -7, 10, -10, 999, -999, 100, 99};
        for (int i = 0; i < written.length; i++) {
            Desk desk = Checks.after("a=uniform 1 1; weights a { " + written[i] + " };");
            Checks.due("weight " + written[i], desk.one().weight(A, 0), values[i]);
            desk = Checks.after("a=uniform 1 1;weights a{" + written[i] + "};");
            Checks.due("weight " + written[i] + " without blanks", desk.one().weight(A, 0), values[i]);
        }
        Checks.prints("a=matrix 007 012 { }; rank a; b=uniform 01 002; bases b; c=delete b { 000 }; bases c; d=graph 013 { -0 012 };"
            + "rank d;", "0\n{0}\n{1}\n{0}\n1\n");
        for (int number = -999; number <= 999; number++) {
            Desk desk = Checks.after("a=uniform 1 1; weights a {" + number + "};");
            Checks.due("weight " + number, desk.one().weight(A, 0), number);
        }
    }

    private static void numbersTooLong() {
        Checks.says(5, "numbers: - or nothing, and 1 to 3 digits, with no digit behind (-0 and 00 are 0, 007 is 7)");
        String[] none = {"0000", "1000", "-0000", "-1000", "12345", "00000000000", "4294967297", "-4294967297", "-", "--1", "-a",
            "- 1", "+1", "-#\n1", "-{"};
        for (String number : none) {
            Checks.refused("weights a { 1 " + number + " };", 14);
            Checks.refused("weights a {1 " + number + "};", 13);
            Checks.refused("a=matrix " + number + " 1 { 1 };", 9);
            Checks.refused("a=uniform 1 " + number + ";", 12);
        }
        Checks.refused("weights a { 1-", 13);
        Checks.refused("weights a { 1-1000 };", 13);
        Checks.refused("weights a { 1--1 };", 13);
        Checks.refused("weights a { 1.5 };", 13);
        Checks.refused("weights a { 1e2 };", 13);
    }

    private static void signs() {
        Checks.says(4, "{ } , = ; each by itself");
        Checks.ends("a=matrix Q 0{,,};b=matrix Q 0{};c=sum a b;", 3, 0);
        Checks.refused("a==dual b;", 2);
        Checks.refused("a=matrix Q 1 {{1}};", 14);
        Checks.refused("a=matrix Q 1 {1}};", 16);
        Checks.refused("a=dual b;;", 9);
        Checks.refused("a=matrix Q 1 [1];", 13);
        Checks.refused("a=matrix Q 1 (1);", 13);
        Checks.refused("a:=dual b;", 1);
    }

    private static void statementsEnd() {
        Checks.says(5, "It consists of STATEMENTS, each with a ; behind it");
        Checks.refused(";", 0);
        Checks.refused(" ; rank a;", 1);
        Checks.refused("rank a;;", 7);
        Checks.refused("rank a rank b;", 7);
        Checks.refused("rank a, rank b;", 6);
        Checks.refused("a=uniform 1 2", 13);
        Checks.refused("a=uniform 1 2 b=uniform 1 2;", 14);
        Checks.refused("a=matrix Q 0 { } rank a;", 17);
        Checks.ends("a=uniform 1 2 ; rank a\n;", 2, 0);
    }

    private static void statementsAtMost() {
        Checks.says(5, "400 at most");
        String made = "a=uniform 0 0;";
        String most = made + "rank a;".repeat(399);
        Checks.ends(most, 400, 0);
        Checks.ends(most + " # nothing more\n ", 400, 0);
        Checks.ends(made + "rank a;".repeat(398), 399, 0);
        Checks.says(5, "or where the 401st statement begins");
        Checks.refused(most + "rank a;", most.length());
        Checks.refused(most + " # one more\n\trank a;", most.length() + 13);
        Checks.refused(most + "rank a;".repeat(200), most.length());
        // What is there need not be one.
        for (String stray : new String[] {";", "rank", "a", "!", "1000", "}"}) {
            Checks.refused(most + "  " + stray, most.length() + 2);
        }
        Checks.refused("rank a rank;" + most, 7);
        Checks.refused(most.substring(0, most.length() - 1) + "; ? rank a;", most.length() + 1);
        Desk desk = new Desk();
        desk.run("a=uniform 1 2;".repeat(401));
        Checks.due("nothing of 401 is done", desk.one().elements(A), NONE);
    }

    private static void names() {
        Checks.says(5, "A NAME is a word of one letter a .. z; y, z stand for names that were told.");
        for (char letter = 'a'; letter <= 'z'; letter++) {
            Checks.prints(letter + "=uniform 1 2;rank " + letter + ";" + letter + "=sum " + letter + " " + letter + ";rank " + letter
                + ";", "1\n2\n");
        }
        for (char letter = 'A'; letter <= 'Z'; letter++) {
            Checks.refused(letter + "=uniform 1 2;", 0);
            Checks.refused("rank " + letter + ";", 5);
            Checks.refused("a=dual " + letter + ";", 7);
            Checks.refused("common a " + letter + ";", 9);
        }
        for (String none : new String[] {"ab", "aA", "Q", "QQ", "1", "a1", "rank", "`"}) {
            int place = none.equals("a1") ? 1 : 0;
            Checks.refused("rank " + none + ";", 5 + place);
            Checks.refused("a=sum b " + none + ";", 8 + place);
            Checks.refused("weights " + none + " { };", 8 + place);
        }
        // Names that are words of statements' letters, and names that were not made yet.
        Checks.ends("q=matrix Q 1 { 1 }; rank q; e=copy q; rank e; rank f;", 4, 1);
    }

    private static void words() {
        Checks.says(5, "where the first token begins that is none, or is not one that can stand there by what was said of words, "
            + "names, numbers, signs");
        for (String word : MAKINGS) {
            // They stand behind = alone, and only as they are written.
            Checks.refused(word + " a;", 0);
            Checks.refused(word + ";", 0);
            notTheWord("a=", word);
        }
        for (String word : OTHERS) {
            Checks.refused("a=" + word + " b;", 2);
            Checks.refused("a =\n" + word + ";", 4);
            notTheWord("", word);
        }
        Checks.refused("a=b;", 2);
        Checks.refused("a=Q;", 2);
        Checks.refused("a=3;", 2);
        Checks.refused("a=;", 2);
        Checks.refused("=dual a;", 0);
        Checks.refused("Q=dual a;", 0);
        Checks.refused("3=dual a;", 0);
    }

    private static void notTheWord(String before, String word) {
        String[] others = {word + "x", "x" + word, word.substring(0, word.length() - 1), word.substring(1), word.toUpperCase(),
            word.substring(0, 1).toUpperCase() + word.substring(1)};
        for (String other : others) {
            Checks.refused(before + other + " b;", before.length());
        }
    }

    private static void rowsEmpty() {
        Checks.says(4, "({ } is none; { , } two of no numbers; { 1 2 , } two, the second of no numbers)");
        for (int size = 0; size <= 12; size++) {
            String row = " 1".repeat(size);
            Checks.ends("a=matrix Q " + size + " { };", 1, 0);
            Checks.ends("a=matrix Q " + size + " { , };", size == 0 ? 1 : 0, size == 0 ? 0 : 2);
            Checks.ends("a=matrix Q " + size + " {" + row + " , };", size == 0 ? 1 : 0, size == 0 ? 0 : 2);
            Checks.ends("a=matrix Q " + size + " { ," + row + " };", size == 0 ? 1 : 0, size == 0 ? 0 : 2);
            Checks.ends("a=matrix Q " + size + " {" + row + " };", 1, 0);
            Checks.ends("a=matrix Q " + size + " {" + row + " ," + row + " };", 1, 0);
        }
        Checks.prints("a=matrix Q 2 { }; rank a; circuits a; show a;", "0\n{0}\n{1}\n");
        Checks.prints("a=matrix 2 0 { , }; rank a; flats a; show a;", "0\n{}\n");
    }

    /** Each statement: its tokens, and for each what can stand in its place (n: a name, m, o: a word of a making or not, #: a number). */
    private static final String[][] FORMS = {
        {"a", "=", "matrix", "Q", "2", "{", "1", "2", ",", "-3", "}", ";"},
        {"no", "=", "m", "Q#", "#", "{", "#,}", "#,}", "#,}", "#,}", "#,}", ";"},
        {"a", "=", "matrix", "5", "0", "{", "}", ";"},
        {"no", "=", "m", "Q#", "#", "{", "#,}", ";"},
        {"a", "=", "graph", "2", "{", "0", "1", ",", "1", "0", "}", ";"},
        {"no", "=", "m", "#", "{", "#}", "#", ",}", "#", "#", ",}", ";"},
        {"a", "=", "graph", "2", "{", "}", ";"},
        {"no", "=", "m", "#", "{", "#}", ";"},
        {"a", "=", "uniform", "1", "2", ";"},
        {"no", "=", "m", "#", "#", ";"},
        {"a", "=", "dual", "b", ";"},
        {"no", "=", "m", "n", ";"},
        {"a", "=", "copy", "b", ";"},
        {"no", "=", "m", "n", ";"},
        {"a", "=", "delete", "b", "{", "0", "1", "}", ";"},
        {"no", "=", "m", "n", "{", "#}", "#}", "#}", ";"},
        {"a", "=", "contract", "b", "{", "}", ";"},
        {"no", "=", "m", "n", "{", "#}", ";"},
        {"a", "=", "sum", "b", "c", ";"},
        {"no", "=", "m", "n", "n", ";"},
        {"weights", "a", "{", "1", "2", "}", ";"},
        {"no", "n", "{", "#}", "#}", "#}", ";"},
        {"weights", "a", "{", "}", ";"},
        {"no", "n", "{", "#}", ";"},
        {"common", "a", "b", ";"},
        {"no", "n", "n", ";"},
        {"minor", "a", "b", ";"},
        {"no", "n", "n", ";"},
        {"rank", "a", ";"}, {"no", "n", ";"},
        {"bases", "a", ";"}, {"no", "n", ";"},
        {"circuits", "a", ";"}, {"no", "n", ";"},
        {"cocircuits", "a", ";"}, {"no", "n", ";"},
        {"flats", "a", ";"}, {"no", "n", ";"},
        {"tutte", "a", ";"}, {"no", "n", ";"},
        {"best", "a", ";"}, {"no", "n", ";"},
        {"chirotope", "a", ";"}, {"no", "n", ";"},
        {"signs", "a", ";"}, {"no", "n", ";"},
        {"show", "a", ";"}, {"no", "n", ";"}};

    private static boolean canStand(String kinds, String token) {
        char first = token.charAt(0);
        switch (token) {
            case "a":
            case "z":
                return kinds.indexOf('n') >= 0;
            case "dual":
                return kinds.indexOf('m') >= 0;
            case "rank":
                return kinds.indexOf('o') >= 0;
            case "7":
            case "-7":
                return kinds.indexOf('#') >= 0;
            case "Q":
            case "{":
            case "}":
            case ",":
            case "=":
            case ";":
                return kinds.indexOf(first) >= 0;
            default:
                return false;
        }
    }

    private static void everyToken() {
        Checks.says(5, "where the first token begins that is none, or is not one that can stand there by what was said of words, "
            + "names, numbers, signs");
        for (int form = 0; form < FORMS.length; form += 2) {
            String[] tokens = FORMS[form];
            for (int at = 0; at < tokens.length; at++) {
                for (String kind : KINDS) {
                    oneToken(tokens, at, kind, canStand(FORMS[form + 1][at], kind));
                }
            }
        }
    }

    private static void oneToken(String[] tokens, int at, String kind, boolean stands) {
        StringBuilder script = new StringBuilder("b=uniform 1 2;  c=copy b;# and\n\t");
        int place = 0;
        for (int i = 0; i < tokens.length; i++) {
            place = i == at ? script.length() : place;
            script.append(i == at ? kind : tokens[i]).append(' ');
        }
        Desk desk = new Desk();
        int done = desk.run(script.toString());
        int refusedAt = desk.one().place();
        if (stands) {
            Checks.due("refused at " + kind + " of " + script, refusedAt == place ? 1 : 0, 0);
        } else {
            Checks.due("run of " + script, done, NONE);
            Checks.due("place in " + script, refusedAt, place);
        }
    }

    private static void everyEnd() {
        Checks.says(5, "or the end, if it ends within a statement");
        for (int form = 0; form < FORMS.length; form += 2) {
            StringBuilder script = new StringBuilder("b=uniform 1 2; c=copy b; ");
            for (int i = 0; i + 1 < FORMS[form].length; i++) {
                script.append(FORMS[form][i]);
                Checks.refused(script.toString(), script.length());
                Checks.refused(script + " \n\t\r", script.length() + 4);
                Checks.refused(script + "# ; }", script.length() + 5);
                script.append(' ');
            }
        }
        // A word or a number that was cut can be none that stands there.
        Checks.refused("ran", 0);
        Checks.refused("a=unifor", 2);
        Checks.refused("weights a { 1 -", 14);
    }

    private static void numbersOfEdges() {
        Checks.says(5, "that there be one number where one is told, two in each edge");
        Checks.refused("a=graph 3 { 0 };", 14);
        Checks.refused("a=graph 3 { 0 1 2 };", 16);
        Checks.refused("a=graph 3 { 0 1, 2 };", 19);
        Checks.refused("a=graph 3 { 0 1, };", 17);
        Checks.refused("a=graph 3 { , 0 1 };", 12);
        Checks.refused("a=graph 3 { 0, 1 };", 13);
        Checks.refused("a=graph 3 { 0 1,, 1 2 };", 16);
        Checks.refused("a=graph 3 3 { };", 10);
        Checks.refused("a=graph { };", 8);
        Checks.refused("a=uniform 1;", 11);
        Checks.refused("a=uniform 1 2 3;", 14);
        Checks.refused("a=uniform ;", 10);
        Checks.refused("a=matrix Q { };", 11);
        Checks.refused("a=matrix 2 { };", 11);
        Checks.refused("a=matrix 2 2 2 { };", 13);
        Checks.refused("a=matrix Q 2 2 { };", 13);
        Checks.refused("a=matrix 2 Q { };", 11);
        Checks.refused("a=matrix Q Q { };", 11);
        Checks.ends("a=graph 3 { };", 1, 0);
    }

    private static void numbersNoMatter() {
        Checks.says(5, "(how great numbers are and how many of them there are is no matter");
        Checks.ends("a=matrix 999 999 { 1 };", 0, 2);
        Checks.ends("a=matrix -1 -1 { };", 0, 2);
        Checks.ends("a=graph -1 { -1 -1 };", 0, 2);
        Checks.ends("a=graph 999 { 999 999 };", 0, 2);
        Checks.ends("a=uniform -1 -1;", 0, 2);
        Checks.ends("a=uniform 999 999;", 0, 2);
        Checks.says(5, "In rows, sets and weights any numbers can stand.");
        Checks.ends("a=uniform 1 2; b=delete a { -999 999 3 2 1 1 };", 1, 2);
        Checks.ends("a=uniform 1 2; b=contract a { -999 999 3 2 1 1 };", 1, 2);
        Checks.ends("a=uniform 1 2; weights a { -999 999 };", 2, 0);
        Checks.ends("a=matrix Q 2 { -999 999 };", 1, 0);
        Checks.ends("a=matrix Q 2 { 1 , 1 2 3 , , 4 };", 0, 2);
        // So many that a statement fills a script.
        String many = " 1".repeat(2000);
        Checks.ends("a=uniform 1 2; weights a {" + many + " };", 1, 2);
        Checks.ends("a=uniform 1 2; b=delete a {" + many + " };", 1, 2);
        Checks.ends("a=uniform 1 2; b=contract a {" + many + " };", 1, 2);
        Checks.ends("a=matrix 2 1 {" + many + " };", 0, 2);
        Checks.ends("a=matrix 2 1 { 1" + ",1".repeat(2000) + " };", 0, 2);
        Checks.ends("a=matrix 2 0 { " + ",".repeat(4000) + " };", 0, 2);
        Checks.ends("a=graph 2 { 0 1" + ",0 1".repeat(1000) + " };", 0, 2);
        Checks.refused("a=graph 2 { 0 1" + ",0 1".repeat(1000) + ", };", 15 + 4000 + 2);
    }

    private static void firstOfTwoPlaces() {
        Checks.says(5, "It is REFUSED at a PLACE (a byte): where the first token begins that is none");
        Checks.refused("rank ? ! ;", 5);
        Checks.refused("rank a ? ! ;", 7);
        Checks.refused("rank rank; ?", 5);
        Checks.refused("a=uniform 1 2; rank b; weights a { 1 }; ?", 40);
        Checks.refused("?", 0);
        Checks.refused("\n\n?", 2);
    }
}
