/** What a script is, where it is refused, why it stops, and what it prints. */
public final class ScriptsTest {
    private static int wrong = 0;

    public static void main(String[] args) {
        tokens();
        refusedStatements();
        refusedTails();
        refusedByNumber();
        whyNumbers();
        whyNames();
        whyOthers();
        whyPrinted();
        linesOfSets();
        linesOfNumbers();
        rowsShown();
        makings();
        System.exit(wrong == 0 ? 0 : 1);
    }

    private static void due(String call, long got, long want) {
        if (got != want) {
            wrong++;
            System.out.println(call + " answered " + got + ", due is " + want);
        }
    }

    private static void refused(String script, int place) {
        Desk desk = new Desk();
        due("run of " + script, desk.run(script), MatroidDesk.NONE);
        due("place in " + script, desk.one().place(), place);
    }

    private static void stops(String script, int done, int why) {
        Desk desk = new Desk();
        due("run of " + script, desk.run(script), done);
        due("why of " + script, desk.one().why(), why);
        due("place of " + script, desk.one().place(), MatroidDesk.NONE);
    }

    private static void prints(String script, String text) {
        Desk desk = new Desk();
        desk.run(script);
        due("why of " + script, desk.one().why(), 0);
        String product = desk.product();
        if (!product.equals(text)) {
            wrong++;
            System.out.println(script + " printed\n" + product + "due is\n" + text);
        }
    }

    private static void tokens() {
        prints("a=matrix Q3{1-2 3,0 0 1};show a;", "1 -2 0\n0 0 1\n");
        prints("a\t=\rmatrix#Q 9 {\nQ # 2\n 2{-0 00,007-7 }\n;show a;", "1 -1\n");
        refused("a = matrix Q 2 { 1234 };", 17);
        refused("a = matrix Q 2 { -1234 };", 17);
        refused("a = matrix Q 2 { - 1 };", 17);
        refused("a = matrix Q 2 { --1 };", 17);
        refused("a = matrix Q 2 { 1- };", 18);
        refused("a = matrix Q 2 { +1 };", 17);
        refused("a = matrix Q 2 { 1.5 };", 18);
        refused("a = matrix Q 2 { 12a };", 19);
        refused("rank\u0000a;", 4);
        refused("rank a\u000b;", 6);
        refused("# a\n  ?", 6);
        refused("\u00ff", 0);
    }

    private static void refusedStatements() {
        refused(";", 0);
        refused("rank a;;", 7);
        refused("rank a", 6);
        refused("rank a  # b", 11);
        refused("rank", 4);
        refused("rank;", 4);
        refused("rank A;", 5);
        refused("rank ab;", 5);
        refused("rank 1;", 5);
        refused("rank a b;", 7);
        refused("Rank a;", 0);
        refused("ranks a;", 0);
        refused("dual a;", 0);
        refused("7 a;", 0);
        refused("a", 1);
        refused("a;", 1);
        refused("a dual b;", 2);
        refused("A = dual b;", 0);
        refused("ab = dual b;", 0);
        refused("a = b;", 4);
        refused("a = rank b;", 4);
        refused("a = = dual b;", 4);
        refused("a = dual b c;", 11);
        refused("a = dual;", 8);
        refused("a = sum b;", 9);
        refused("a = sum b, c;", 9);
        refused("a = sum b C;", 10);
        refused("common a;", 8);
        refused("minor a b c;", 10);
        refused("a = uniform 2;", 13);
        refused("a = uniform 2 x;", 14);
        refused("a = uniform 2 3 4;", 16);
        refused("a = uniform Q 3;", 12);
        refused("rank a; rank b; rank c; show", 28);
    }

    private static void refusedTails() {
        refused("a = matrix q 2 { };", 11);
        refused("a = matrix QQ 2 { };", 11);
        refused("a = matrix 2 { };", 13);
        refused("a = matrix Q Q { };", 13);
        refused("a = matrix Q 2 ( );", 15);
        refused("a = matrix Q 2 { 1 ; };", 19);
        refused("a = matrix Q 2 { 1 a };", 19);
        refused("a = matrix Q 2 { 1 2", 20);
        refused("a = matrix Q 2 { 1 2 }", 22);
        refused("a = matrix Q 2 { 1 2 } }", 23);
        refused("a = matrix Q 2 { { 1 2 } };", 17);
        refused("a = graph 3 { 0 };", 16);
        refused("a = graph 3 { 0 1 2 };", 18);
        refused("a = graph 3 { 0, 1 };", 15);
        refused("a = graph 3 { 0 1, };", 19);
        refused("a = graph 3 { , };", 14);
        refused("a = graph 3 { 0 1,, 1 2 };", 18);
        refused("a = graph Q { 0 1 };", 10);
        refused("a = graph { 0 1 };", 10);
        refused("a = delete b { 0, 1 };", 16);
        refused("a = delete b 0;", 13);
        refused("a = delete b;", 12);
        refused("a = contract { 0 };", 13);
        refused("weights a { 1, 2 };", 13);
        refused("weights a { b };", 12);
        refused("weights a;", 9);
        stops("a = matrix Q 2 { , 1 2 3 ,, 4 };", 0, 2);
        stops("weights a { };", 0, 1);
    }

    private static void refusedByNumber() {
        StringBuilder most = new StringBuilder("a=uniform 0 0;");
        for (int i = 1; i < 400; i++) {
            most.append("rank a;");
        }
        stops(most.toString(), 400, 0);
        stops(most + "  # nothing more", 400, 0);
        refused(most + "  rank a;", most.length() + 2);
        refused(most + ";", most.length());
        refused(most + "a", most.length());
        refused("rank !" + most, 5);
    }

    private static void whyNumbers() {
        for (String field : new String[] {"0", "1", "-2", "4", "9", "169", "221", "247", "249", "252", "253", "257", "999"}) {
            stops("a = matrix " + field + " 1 { 1 };", 0, 2);
        }
        for (String field : new String[] {"Q", "2", "3", "02", "13", "127", "241", "251"}) {
            stops("a = matrix " + field + " 1 { 1 };", 1, 0);
        }
        stops("a = matrix Q -1 { };", 0, 2);
        stops("a = matrix Q 13 { };", 0, 2);
        stops("a = matrix Q 12 { };", 1, 0);
        stops("a = matrix Q 0 { };", 1, 0);
        stops("a = matrix Q 0 { , };", 1, 0);
        stops("a = matrix Q 0 { ,,,,,,,,,,, };", 1, 0);
        stops("a = matrix Q 0 { ,,,,,,,,,,,, };", 0, 2);
        stops("a = matrix Q 0 { 1 };", 0, 2);
        stops("a = matrix Q 2 { 1 2 , };", 0, 2);
        stops("a = matrix Q 2 { , };", 0, 2);
        stops("a = matrix Q 2 { 1 };", 0, 2);
        stops("a = matrix Q 2 { 1 2 3 };", 0, 2);
        stops("a = matrix Q 2 { 1, 2 3 4 };", 0, 2);
        stops("a = matrix Q 2 { 1 2, 3 4 5 };", 0, 2);
        stops("a = matrix 2 1 {1,1,1,1,1,1,1,1,1,1,1,1};", 1, 0);
        stops("a = matrix 2 1 {1,1,1,1,1,1,1,1,1,1,1,1,1};", 0, 2);
        stops("a = matrix 2 12 {" + " 1".repeat(400) + "};", 0, 2);
        stops("a = graph 0 { };", 0, 2);
        stops("a = graph 14 { };", 0, 2);
        stops("a = graph 13 { 0 12 };", 1, 0);
        stops("a = graph 3 { 0 3 };", 0, 2);
        stops("a = graph 3 { -1 0 };", 0, 2);
        stops("a = graph 2 {0 1,0 1,0 1,0 1,0 1,0 1,0 1,0 1,0 1,0 1,0 1,0 1};", 1, 0);
        stops("a = graph 2 {0 1,0 1,0 1,0 1,0 1,0 1,0 1,0 1,0 1,0 1,0 1,0 1,0 1};", 0, 2);
        stops("a = graph 2 {0 1" + ",0 1".repeat(200) + "};", 0, 2);
        stops("a = uniform 3 2;", 0, 2);
        stops("a = uniform -1 2;", 0, 2);
        stops("a = uniform 0 13;", 0, 2);
        stops("a = uniform 0 -1;", 0, 2);
        stops("a = uniform 12 12;", 1, 0);
        stops("a = uniform 0 0;", 1, 0);
    }

    private static void whyNames() {
        String a = "a = uniform 2 4; ";
        for (String verb : new String[] {"rank", "bases", "circuits", "cocircuits", "flats", "tutte", "best", "chirotope",
            "signs", "show"}) {
            stops(a + verb + " a; " + verb + " b;", 2, 1);
        }
        for (String verb : new String[] {"common", "minor"}) {
            stops(a + verb + " a a;" + verb + " a b;", 2, 1);
            stops(a + verb + " b a;", 1, 1);
        }
        stops(a + "b = dual c;", 1, 1);
        stops(a + "b = copy b;", 1, 1);
        stops(a + "b = sum a c;", 1, 1);
        stops(a + "b = sum c a;", 1, 1);
        stops(a + "b = delete c { 99 };", 1, 1);
        stops(a + "b = contract c { };", 1, 1);
        stops(a + "weights c { 1 };", 1, 1);
        for (String verb : new String[] {"delete", "contract"}) {
            stops(a + "b = " + verb + " a { 0 1 2 3 };", 2, 0);
            stops(a + "b = " + verb + " a { };", 2, 0);
            stops(a + "b = " + verb + " a { 4 };", 1, 2);
            stops(a + "b = " + verb + " a { -1 };", 1, 2);
            stops(a + "b = " + verb + " a { 1 1 };", 1, 2);
            stops(a + "b = " + verb + " a { 2 1 };", 1, 2);
            stops(a + "b = " + verb + " a {" + " 1".repeat(300) + " };", 1, 2);
        }
        stops(a + "weights a { 1 2 3 };", 1, 2);
        stops(a + "weights a { 1 2 3 4 5 };", 1, 2);
        stops(a + "weights a { -999 999 0 1 };", 2, 0);
    }

    private static void whyOthers() {
        String made = "a = uniform 2 6; b = uniform 1 7; c = matrix 3 6 { }; d = matrix 3 7 { }; ";
        stops(made + "e = sum a a; e = sum a b;", 5, 3);
        stops(made + "e = sum a d;", 4, 3);
        stops(made + "e = sum a c;", 4, 4);
        stops(made + "e = sum c c; chirotope a; signs a; chirotope c;", 7, 5);
        stops(made + "signs c;", 4, 5);
        stops(made + "common a c; common a b;", 5, 6);
        stops(made + "common c b;", 4, 6);
        stops(made + "minor a b; minor a c; minor b c; minor d a;", 8, 0);
    }

    private static void whyPrinted() {
        // All sets of twelve elements take 61441 bytes.
        String flats = "a=uniform 12 12;b=uniform 1 12;c=uniform 0 1;flats a;";
        Desk desk = new Desk();
        due("run", desk.run(flats + "rank c;flats a;rank c;"), 5);
        due("why", desk.one().why(), 7);
        due("printed", desk.one().printed(), 61443);
        due("last byte", desk.one().out(61442), '\n');
        due("byte behind", desk.one().out(61443), MatroidDesk.NONE);
        // The bases of b are ten lines of four bytes and two of five; rank takes two bytes, best of c three.
        StringBuilder exact = new StringBuilder(flats);
        int left = 65536 - 61441;
        for (; left >= 50 + 4; left -= 50) {
            exact.append("bases b;");
        }
        for (; left >= 4 || left == 2; left -= 2) {
            exact.append("rank c;");
        }
        exact.append(left == 3 ? "best c;" : "");
        desk = new Desk();
        desk.run(exact.toString());
        due("why", desk.one().why(), 0);
        due("printed", desk.one().printed(), 65536);
        desk = new Desk();
        desk.run(exact + "d=copy c; rank c; e=copy d;");
        due("why", desk.one().why(), 7);
        due("printed", desk.one().printed(), 65536);
        due("made before", desk.one().elements(3), 1);
        due("not made behind", desk.one().elements(4), MatroidDesk.NONE);
    }

    private static void linesOfSets() {
        prints("a=uniform 0 0; bases a; circuits a; cocircuits a; flats a; best a; common a a;", "{}\n{}\n{}\n{}\n{}\n");
        prints("a=matrix 2 12 { 0 0 0 0 0 0 0 0 0 1 1 1 }; bases a; cocircuits a;", "{9}\n{10}\n{11}\n{9 10 11}\n");
        prints("a=graph 3 { 0 1, 1 2, 2 0 }; bases a; circuits a; cocircuits a; flats a;",
            "{0 1}\n{0 2}\n{1 2}\n{0 1 2}\n{0 1}\n{0 2}\n{1 2}\n{}\n{0}\n{1}\n{2}\n{0 1 2}\n");
        prints("a=uniform 1 3; weights a { 1 2 2 }; best a; b=uniform 2 3; common a b; common b a;",
            "{1}\n{0}\n{0 1 2}\n{0}\n{}\n");
        prints("a=uniform 2 3; minor a a; b=uniform 0 0; minor a b; c=uniform 1 1; minor a c; minor c a;",
            "{}\n{}\n0 1 2\n{}\n{0 1 2}\n\n{}\n{1 2}\n0\nno\n");
        prints("a=uniform 6 12; b=uniform 1 3; minor a b;", "{3 4 5 6 7}\n{8 9 10 11}\n0 1 2\n");
    }

    private static void linesOfNumbers() {
        prints("a=uniform 0 0; rank a; tutte a; chirotope a; signs a; show a;", "0\n1\n+\n");
        prints("a=uniform 12 12; rank a; tutte a;", "12\nx^12\n");
        prints("a=uniform 0 1; tutte a; b=sum a a; tutte b; c=dual a; d=sum c b; tutte d;", "y\ny^2\nx y^2\n");
        prints("a=uniform 1 3; tutte a; a=uniform 2 4; tutte a;", "x + y^2 + y\nx^2 + 2 x + y^2 + 2 y\n");
        prints("a=graph 4 { 0 1, 0 2, 0 3, 1 2, 1 3, 2 3 }; tutte a;", "x^3 + 3 x^2 + 4 x y + 2 x + y^3 + 3 y^2 + 2 y\n");
        prints("a=graph 2 { 0 1, 1 0, 0 0 }; chirotope a; signs a;", "+-0\n00+\n++0\n");
        prints("a=matrix Q 3 { 0 0 -2 }; chirotope a; signs a;", "00+\n+00\n0+0\n");
        prints("a=matrix Q 3 { 1 0 1, 0 1 1 }; chirotope a; signs a;", "++-\n++-\n");
        prints("a=matrix Q 3 { 1 0 1, 0 1 1 }; b=dual a; chirotope b; signs b;", "++-\n+-0\n+0+\n0++\n");
    }

    private static void rowsShown() {
        prints("a=matrix Q 3 { 2 4 1, 0 0 3 }; show a;", "1 2 0\n0 0 1\n");
        prints("a=matrix Q 3 { 3 1 -2 }; show a;", "1 1/3 -2/3\n");
        prints("a=matrix Q 3 { -3 1 -6 }; show a; b=dual a; show b;", "1 -1/3 2\n1 0 -1/2\n0 1 1/6\n");
        prints("a=matrix 7 3 { 3 1 -2 }; show a; b=dual a; show b;", "1 5 4\n1 0 5\n0 1 4\n");
        prints("a=matrix Q 2 { 0 0, 0 0 }; show a; b=dual a; show b;", "1 0\n0 1\n");
        prints("a=uniform 3 5; show a;", "1 0 0 1 3\n0 1 0 -3 -8\n0 0 1 3 6\n");
        prints("a=graph 3 { 0 1, 1 2, 2 0, 1 1 }; show a;", "1 0 -1 0\n0 1 -1 0\n");
        prints("a=matrix Q 2 { 2 3 }; b=matrix Q 2 { 5 -7 }; c=sum a b; show c; d=dual c; show d;",
            "1 3/2 0 0\n0 0 1 -7/5\n1 -2/3 0 0\n0 0 1 5/7\n");
        prints("a=matrix Q 2 { 2 3 }; c=sum a a; d=contract c { 0 }; show d; e=delete c { 0 }; show e;",
            "0 1 3/2\n1 0 0\n0 1 3/2\n");
    }

    private static void makings() {
        prints("a=matrix Q 4 { 1 2 3 4, 5 6 7 8 }; b=delete a { 1 }; show b; c=contract a { 1 }; show c;",
            "1 0 -1/2\n0 1 3/2\n1 -1 -2\n");
        prints("a=matrix Q 4 { 1 2 3 4, 5 6 7 8 }; b=delete a { 0 1 2 3 }; rank b; flats b; c=contract a { }; rank c;",
            "0\n{}\n2\n");
        prints("a=matrix Q 4 { 1 2 3 4, 5 6 7 8 }; a=dual a; a=dual a; show a; a=sum a a; rank a; a=delete a { 0 1 2 };"
            + "show a;", "1 0 -1 -2\n0 1 2 3\n4\n1 0 0 0 0\n0 1 0 -1 -2\n0 0 1 2 3\n");
        prints("a=matrix 5 2 { 7 -1 }; b=copy a; a=uniform 0 1; show b; rank a;", "1 2\n0\n");
    }
}
