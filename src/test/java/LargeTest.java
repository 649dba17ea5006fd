import java.util.Random;

/** Matroids of up to twelve elements with great numbers: what is printed must be what the oracle prints. */
public final class LargeTest {
    private static int wrong = 0;

    public static void main(String[] args) {
        int rounds = args.length > 0 ? Integer.parseInt(args[0]) : 40;
        long first = args.length > 1 ? Long.parseLong(args[1]) : 1;
        for (long seed = first; seed < first + rounds && wrong == 0; seed++) {
            round(seed);
        }
        System.exit(wrong == 0 ? 0 : 1);
    }

    private static void round(long seed) {
        Random random = new Random(seed);
        int n = 12 - random.nextInt(3);
        int rows = random.nextInt(6) == 0 ? n : n - 1 - random.nextInt(n - 1);
        String field = random.nextInt(4) == 0 ? "251" : "Q";
        // Rows that are multiples make determinants with great common divisors.
        int factor = new int[] {1, 1, 2, 6, 37, 64}[random.nextInt(6)];
        int span = random.nextInt(3) > 0 ? 999 / factor : 1 + random.nextInt(15);
        StringBuilder text = new StringBuilder("a = matrix " + field + " " + n + " {");
        for (int r = 0; r < rows; r++) {
            text.append(r == 0 ? "" : ",");
            for (int e = 0; e < n; e++) {
                boolean extreme = random.nextInt(4) == 0;
                int number = extreme ? (random.nextBoolean() ? span : -span) : random.nextInt(2 * span + 1) - span;
                text.append(' ').append(factor * number);
            }
        }
        text.append("}; show a; b = dual a; show b; ");
        text.append("c = delete a ").append(set(random, n)).append("show c; ");
        text.append("d = contract b ").append(set(random, n)).append("show d; ");
        text.append("e = dual d; show e; f = contract a ").append(set(random, n)).append("show f; ");
        text.append("g = delete f { 0 }; show g; h = dual c; k = contract h { 0 1 }; show k; l = dual k; show l; ");
        text.append(field.equals("Q") ? "chirotope a; chirotope e; chirotope g; chirotope l; " : "");
        text.append(field.equals("Q") ? "signs g; signs k; " : "");
        text.append("tutte c; weights a {");
        for (int e = 0; e < n; e++) {
            text.append(' ').append(random.nextInt(5) - 2);
        }
        text.append("}; best a; common a b; m = sum g l; show m; tutte m;");
        compare(seed, text.toString());
    }

    private static String set(Random random, int n) {
        StringBuilder text = new StringBuilder("{");
        for (int e = 0; e < n; e++) {
            text.append(random.nextInt(4) == 0 ? e + " " : "");
        }
        return text + "}; ";
    }

    private static void compare(long seed, String script) {
        Oracle oracle = new Oracle();
        Desk desk = new Desk();
        int due = oracle.run(script);
        int got = desk.run(script);
        String product = desk.product();
        if (got != due || desk.one().why() != oracle.why || !product.equals(oracle.product)) {
            wrong++;
            System.out.println("seed " + seed + ": " + script);
            System.out.println("run answered " + got + ", due is " + due);
            System.out.println(product + "\ndue is\n" + oracle.product);
        }
    }
}
