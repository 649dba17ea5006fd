import java.util.ArrayList;
import java.util.Collections;
import java.util.List;
import java.util.Random;

/** Random scripts, ordinary and damaged ones: every answer of the face must be the oracle's. */
public final class OracleTest {
    private static final String[] LOOKS = {"rank", "bases", "circuits", "cocircuits", "flats", "tutte", "best",
        "chirotope", "signs", "show"};
    private static int wrong = 0;

    public static void main(String[] args) {
        int rounds = args.length > 0 ? Integer.parseInt(args[0]) : 400;
        long first = args.length > 1 ? Long.parseLong(args[1]) : 1;
        for (long seed = first; seed < first + rounds && wrong == 0; seed++) {
            round(seed);
        }
        System.exit(wrong == 0 ? 0 : 1);
    }

    private static void round(long seed) {
        Random random = new Random(seed);
        int most = random.nextInt(4) == 0 ? 8 : 5;
        Oracle oracle = new Oracle();
        Desk desk = new Desk();
        StringBuilder before = new StringBuilder();
        for (int i = 0; i < 5; i++) {
            String script = i == 0 ? opening(random, most) : i == 4 ? closing(oracle) : script(random, most);
            if (i > 0 && i < 4 && random.nextInt(4) == 0) {
                script = damage(random, script);
            }
            before.append(script).append("\n----\n");
            compareRun("seed " + seed + ":\n" + before, desk, oracle, script);
            if (wrong > 0) {
                return;
            }
        }
        compareCalls("seed " + seed + ":\n" + before, desk, oracle);
    }

    private static void compareRun(String where, Desk desk, Oracle oracle, String script) {
        due(where, "run", desk.run(script), oracle.run(script));
        due(where, "place", desk.one().place(), oracle.place);
        due(where, "why", desk.one().why(), oracle.why);
        due(where, "printed", desk.one().printed(), oracle.product.length());
        String product = desk.product();
        if (!product.equals(oracle.product)) {
            wrong++;
            System.out.println(where + "product\n" + product + "due is\n" + oracle.product);
        }
    }

    private static void due(String where, String call, long got, long want) {
        if (got != want) {
            wrong++;
            System.out.println(where + call + " answered " + got + ", due is " + want);
        }
    }

    private static void compareCalls(String where, Desk desk, Oracle oracle) {
        for (int m = 0; m < 6; m++) {
            Oracle.Mat mat = oracle.mats[m];
            due(where, "elements " + m, desk.one().elements(m), mat == null ? -1 : mat.n);
            due(where, "field " + m, desk.one().field(m), mat == null ? -1 : mat.prime);
            if (mat != null) {
                compareSets(where + "letter " + m + " ", desk, m, mat);
                compareLists(where + "letter " + m + " ", desk, m, mat);
                for (int n = 0; n < 6; n++) {
                    if (oracle.mats[n] != null) {
                        comparePair(where + "letters " + m + " " + n + " ", desk, m, n, oracle);
                    }
                }
            }
        }
    }

    private static void compareSets(String where, Desk desk, int m, Oracle.Mat mat) {
        for (int set = 0; set <= mat.all(); set++) {
            due(where, "rank " + set, desk.one().rank(m, set), mat.rank(set));
            boolean signed = mat.prime == 0 && Integer.bitCount(set) == mat.r();
            due(where, "sign " + set, desk.one().sign(m, set), signed ? Oracle.sign(mat, set) : 2);
        }
        due(where, "best", desk.one().best(m), Oracle.best(mat));
        for (int e = 0; e < mat.n; e++) {
            due(where, "weight " + e, desk.one().weight(m, e), mat.weights[e]);
        }
        long[][] tutte = Oracle.tutte(mat);
        for (int i = 0; i <= mat.r() + 1; i++) {
            for (int j = 0; j <= mat.n - mat.r() + 1; j++) {
                due(where, "tutte " + i + " " + j, desk.one().tutte(m, i, j), tutte[i][j]);
            }
        }
    }

    private static void compareLists(String where, Desk desk, int m, Oracle.Mat mat) {
        for (int kind = 0; kind < 4; kind++) {
            List<Integer> list = Oracle.list(mat, kind);
            due(where, "count " + kind, desk.one().count(m, kind), list.size());
            for (int i = 0; i < list.size(); i++) {
                due(where, "member " + kind + " " + i, desk.one().member(m, kind, i), list.get(i));
                if (kind == 1) {
                    due(where, "below " + i, desk.one().below(m, i), below(mat, list.get(i)));
                }
            }
            due(where, "member behind all " + kind, desk.one().member(m, kind, list.size()), -1);
        }
    }

    private static int below(Oracle.Mat mat, int circuit) {
        if (mat.prime != 0) {
            return -1;
        }
        int below = 0;
        int[] signs = Oracle.signs(mat, circuit);
        for (int e = 0; e < mat.n; e++) {
            below |= signs[e] < 0 ? 1 << e : 0;
        }
        return below;
    }

    private static void comparePair(String where, Desk desk, int m, int n, Oracle oracle) {
        Oracle.Mat first = oracle.mats[m];
        Oracle.Mat second = oracle.mats[n];
        boolean equal = first.n == second.n;
        due(where, "common", desk.one().common(m, n), equal ? Oracle.common(first, second) : -1);
        due(where, "cover", desk.one().cover(m, n), equal ? Oracle.cover(first, second) : -1);
        int[] witness = Oracle.witness(first, second);
        due(where, "contracted", desk.one().contracted(m, n), witness == null ? -1 : witness[0]);
        due(where, "deleted", desk.one().deleted(m, n), witness == null ? -1 : witness[1]);
        for (int e = 0; e <= second.n; e++) {
            boolean there = witness != null && e < second.n;
            due(where, "image " + e, desk.one().image(m, n, e), there ? witness[e + 2] : -1);
        }
    }

    private static String script(Random random, int most) {
        StringBuilder text = new StringBuilder();
        int many = 1 + random.nextInt(8);
        for (int i = 0; i < many; i++) {
            text.append(random.nextInt(5) < 3 ? making(random, most) : other(random, most));
            text.append(random.nextInt(3) == 0 ? "\n" : "");
        }
        return text.toString();
    }

    // Gives all names that are used a matroid, so that later scripts seldom stop for the want of one.
    private static String opening(Random random, int most) {
        StringBuilder text = new StringBuilder();
        for (char name = 'a'; name <= 'd'; name++) {
            text.append(name).append(" = ").append(random.nextInt(3) == 0 ? graph(random, most) : matrix(random, most));
        }
        return text.append(mixed(random, most)).toString();
    }

    // One matroid, and one with the same columns, or some of them, in another order.
    private static String mixed(Random random, int most) {
        int rows = 1 + random.nextInt(most / 2 + 1);
        int prime = 2 + random.nextInt(2);
        StringBuilder text = new StringBuilder("e = matrix " + prime + " " + most + " {");
        List<Integer> columns = new ArrayList<>();
        int[][] numbers = new int[rows][most];
        for (int r = 0; r < rows; r++) {
            text.append(r == 0 ? "" : ",");
            for (int e = 0; e < most; e++) {
                numbers[r][e] = random.nextInt(prime);
                text.append(' ').append(numbers[r][e]);
            }
        }
        for (int e = 0; e < most; e++) {
            columns.add(e);
        }
        Collections.shuffle(columns, random);
        int kept = most - (random.nextBoolean() ? 0 : random.nextInt(most));
        text.append("}; f = matrix ").append(prime).append(' ').append(kept).append(" {");
        for (int r = 0; r < rows; r++) {
            text.append(r == 0 ? "" : ",");
            for (int e : columns.subList(0, kept)) {
                text.append(' ').append(numbers[r][e]);
            }
        }
        return text.append("}; minor e f;").toString();
    }

    private static String closing(Oracle oracle) {
        StringBuilder text = new StringBuilder();
        for (char name = 'a'; name <= 'f'; name++) {
            text.append(oracle.mats[name - 'a'] == null ? "" : "show " + name + ";");
        }
        return text.toString();
    }

    private static char name(Random random) {
        return (char) ('a' + random.nextInt(6));
    }

    private static String making(Random random, int most) {
        String head = name(random) + " = ";
        switch (random.nextInt(9)) {
            case 0:
            case 1:
                return head + matrix(random, most);
            case 2:
                return head + graph(random, most);
            case 3:
                int n = random.nextInt(most + 1);
                return head + "uniform " + (random.nextInt(n + 1) - (random.nextInt(30) == 0 ? 1 : 0)) + " " + n + ";";
            case 4:
                return head + "dual " + name(random) + ";";
            case 5:
                return head + "delete " + name(random) + set(random, most);
            case 6:
                return head + "contract " + name(random) + set(random, most);
            case 7:
                return head + (most < 8 || random.nextInt(6) == 0 ? "sum " + name(random) + " " : "copy ") + name(random) + ";";
            default:
                return head + "copy " + name(random) + ";";
        }
    }

    private static String matrix(Random random, int most) {
        String[] fields = {"Q", "Q", "Q", "2", "3", "5", "7", "251", "13", "4"};
        int pick = random.nextInt(30);
        String field = pick == 29 ? "4" : fields[pick % 9];
        int n = Math.min(most, random.nextInt(most + 3));
        int rows = random.nextInt(n + 2);
        int span = random.nextBoolean() ? 2 : random.nextBoolean() ? 10 : 1000;
        StringBuilder text = new StringBuilder("matrix " + field + " " + n + " {");
        for (int r = 0; r < rows; r++) {
            text.append(r == 0 ? "" : ",");
            for (int e = 0; e < n; e++) {
                text.append(' ').append(random.nextInt(2 * span - 1) - span + 1);
            }
        }
        if (rows == 1 && n == 0) {
            text.append(",");
        }
        return text + " };";
    }

    private static String graph(Random random, int most) {
        int v = 1 + random.nextInt(5);
        int edges = random.nextInt(most + 1);
        StringBuilder text = new StringBuilder("graph " + v + "{");
        for (int e = 0; e < edges; e++) {
            text.append(e == 0 ? "" : ", ").append(random.nextInt(v)).append(' ').append(random.nextInt(v));
        }
        return text + "};";
    }

    private static String set(Random random, int most) {
        StringBuilder text = new StringBuilder(" { ");
        for (int e = 0; e < most; e++) {
            if (random.nextInt(5) == 0) {
                text.append(e).append(' ');
            }
        }
        return text + "};";
    }

    private static String other(Random random, int most) {
        char y = name(random);
        switch (random.nextInt(10)) {
            case 0:
                StringBuilder text = new StringBuilder("weights " + y + " {");
                int n = random.nextInt(most + 1);
                for (int e = 0; e < n; e++) {
                    text.append(' ').append(random.nextInt(7) - 3);
                }
                return text + "};";
            case 1:
                return "common " + y + " " + name(random) + ";";
            case 2:
            case 3:
                return "minor " + y + " " + name(random) + ";";
            default:
                return LOOKS[random.nextInt(LOOKS.length)] + " " + y + ";";
        }
    }

    private static String damage(Random random, String script) {
        String signs = "ab{},=;#\n\t 019-QZ+\u00e4\u0000";
        StringBuilder text = new StringBuilder(script);
        int many = 1 + random.nextInt(2);
        for (int i = 0; i < many && text.length() > 0; i++) {
            int at = random.nextInt(text.length());
            switch (random.nextInt(4)) {
                case 0:
                    text.deleteCharAt(at);
                    break;
                case 1:
                    text.insert(at, signs.charAt(random.nextInt(signs.length())));
                    break;
                case 2:
                    text.setCharAt(at, signs.charAt(random.nextInt(signs.length())));
                    break;
                default:
                    text.setLength(at);
                    break;
            }
        }
        return text.toString();
    }
}
