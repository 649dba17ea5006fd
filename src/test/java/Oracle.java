import java.math.BigInteger;
import java.util.ArrayList;
import java.util.Arrays;
import java.util.Comparator;
import java.util.List;
import java.util.regex.Matcher;
import java.util.regex.Pattern;

/** The document's words done as plainly as can be, by linear algebra with rows, to hold the class against. */
final class Oracle {
    /** A number of Q (prime 0) or a residue. */
    record Num(BigInteger top, BigInteger bottom, int prime) {
        static Num of(long value, int prime) {
            return of(BigInteger.valueOf(value), BigInteger.ONE, prime);
        }

        static Num of(BigInteger top, BigInteger bottom, int prime) {
            if (prime > 0) {
                BigInteger p = BigInteger.valueOf(prime);
                return new Num(top.multiply(bottom.modInverse(p)).mod(p), BigInteger.ONE, prime);
            }
            BigInteger common = top.gcd(bottom);
            if (bottom.signum() < 0) {
                common = common.negate();
            }
            return new Num(top.divide(common), bottom.divide(common), 0);
        }

        boolean zero() {
            return top.signum() == 0;
        }

        Num times(Num other) {
            return of(top.multiply(other.top), bottom.multiply(other.bottom), prime);
        }

        Num over(Num other) {
            return of(top.multiply(other.bottom), bottom.multiply(other.top), prime);
        }

        Num less(Num other) {
            return of(top.multiply(other.bottom).subtract(other.top.multiply(bottom)), bottom.multiply(other.bottom), prime);
        }

        @Override
        public String toString() {
            return bottom.equals(BigInteger.ONE) ? top.toString() : top + "/" + bottom;
        }
    }

    /** Rows in their reduced form span the space. */
    static final class Mat {
        final int prime;
        final int n;
        final List<Num[]> rows;
        int[] weights;
        private int[] ranks;

        Mat(int prime, int n, List<Num[]> rows) {
            this.prime = prime;
            this.n = n;
            this.rows = reduce(rows, n);
            this.weights = new int[n];
        }

        int all() {
            return (1 << n) - 1;
        }

        int r() {
            return rows.size();
        }

        int rank(int set) {
            if (ranks == null) {
                ranks = new int[1 << n];
                for (int s = 0; s < 1 << n; s++) {
                    ranks[s] = reduce(places(rows, s, n), Integer.bitCount(s)).size();
                }
            }
            return ranks[set];
        }

        boolean independent(int set) {
            return rank(set) == Integer.bitCount(set);
        }
    }

    static final class Refused extends Exception {
        final int place;

        Refused(int place) {
            this.place = place;
        }
    }

    static final class Stopped extends Exception {
        final int why;

        Stopped(int why) {
            this.why = why;
        }
    }

    private static final Comparator<Integer> ORDER = (a, b) -> {
        int sizes = Integer.compare(Integer.bitCount(a), Integer.bitCount(b));
        int differ = a ^ b;
        if (sizes != 0 || differ == 0) {
            return sizes;
        }
        return (a & Integer.lowestOneBit(differ)) != 0 ? -1 : 1;
    };

    final Mat[] mats = new Mat[26];
    int place = -1;
    int why;
    String product = "";

    private record Token(String text, int start) { }

    private List<Token> tokens;
    private int at;

    static List<Num[]> reduce(List<Num[]> given, int n) {
        List<Num[]> left = new ArrayList<>();
        for (Num[] row : given) {
            left.add(row.clone());
        }
        List<Num[]> done = new ArrayList<>();
        for (int c = 0; c < n; c++) {
            Num[] pivot = null;
            for (Num[] row : left) {
                if (pivot == null && !row[c].zero()) {
                    pivot = row;
                }
            }
            if (pivot == null) {
                continue;
            }
            left.remove(pivot);
            Num lead = pivot[c];
            for (int j = 0; j < n; j++) {
                pivot[j] = pivot[j].over(lead);
            }
            for (List<Num[]> some : List.of(left, done)) {
                for (Num[] row : some) {
                    Num factor = row[c];
                    for (int j = 0; j < n && !factor.zero(); j++) {
                        row[j] = row[j].less(factor.times(pivot[j]));
                    }
                }
            }
            done.add(pivot);
        }
        return done;
    }

    static List<Num[]> places(List<Num[]> rows, int set, int n) {
        List<Num[]> cut = new ArrayList<>();
        for (Num[] row : rows) {
            List<Num> some = new ArrayList<>();
            for (int e = 0; e < n; e++) {
                if ((set >> e & 1) != 0) {
                    some.add(row[e]);
                }
            }
            cut.add(some.toArray(new Num[0]));
        }
        return cut;
    }

    /** Rows with which all of these have the product 0. */
    static List<Num[]> orthogonal(List<Num[]> given, int n, int prime) {
        List<Num[]> rows = reduce(given, n);
        int[] pivots = new int[rows.size()];
        boolean[] isPivot = new boolean[n];
        for (int i = 0; i < rows.size(); i++) {
            while (rows.get(i)[pivots[i]].zero()) {
                pivots[i]++;
            }
            isPivot[pivots[i]] = true;
        }
        List<Num[]> others = new ArrayList<>();
        for (int free = 0; free < n; free++) {
            if (!isPivot[free]) {
                Num[] row = new Num[n];
                Arrays.fill(row, Num.of(0, prime));
                row[free] = Num.of(1, prime);
                for (int i = 0; i < rows.size(); i++) {
                    row[pivots[i]] = Num.of(0, prime).less(rows.get(i)[free]);
                }
                others.add(row);
            }
        }
        return others;
    }

    static Mat dual(Mat m) {
        return new Mat(m.prime, m.n, orthogonal(m.rows, m.n, m.prime));
    }

    static Mat delete(Mat m, int set) {
        return new Mat(m.prime, m.n - Integer.bitCount(set), places(m.rows, m.all() & ~set, m.n));
    }

    /** Puts the places of the set first: the reduced rows that begin behind them are those with 0 there. */
    static Mat contract(Mat m, int set) {
        int many = Integer.bitCount(set);
        List<Num[]> front = places(m.rows, set, m.n);
        List<Num[]> back = places(m.rows, m.all() & ~set, m.n);
        List<Num[]> both = new ArrayList<>();
        for (int i = 0; i < m.r(); i++) {
            Num[] row = Arrays.copyOf(front.get(i), m.n);
            System.arraycopy(back.get(i), 0, row, many, m.n - many);
            both.add(row);
        }
        List<Num[]> kept = new ArrayList<>();
        for (Num[] row : reduce(both, m.n)) {
            boolean clear = true;
            for (int j = 0; j < many; j++) {
                clear &= row[j].zero();
            }
            if (clear) {
                kept.add(Arrays.copyOfRange(row, many, m.n));
            }
        }
        return new Mat(m.prime, m.n - many, kept);
    }

    static Mat sum(Mat a, Mat b) {
        List<Num[]> rows = new ArrayList<>();
        for (int i = 0; i < a.r() + b.r(); i++) {
            Num[] row = new Num[a.n + b.n];
            Arrays.fill(row, Num.of(0, a.prime));
            if (i < a.r()) {
                System.arraycopy(a.rows.get(i), 0, row, 0, a.n);
            } else {
                System.arraycopy(b.rows.get(i - a.r()), 0, row, a.n, b.n);
            }
            rows.add(row);
        }
        return new Mat(a.prime, a.n + b.n, rows);
    }

    static List<Integer> sets(int n) {
        List<Integer> sets = new ArrayList<>();
        for (int s = 0; s < 1 << n; s++) {
            sets.add(s);
        }
        sets.sort(ORDER);
        return sets;
    }

    static List<Integer> list(Mat m, int kind) {
        if (kind == 2) {
            return list(dual(m), 1);
        }
        List<Integer> members = new ArrayList<>();
        for (int set : sets(m.n)) {
            boolean belongs = kind == 0 ? m.independent(set) && Integer.bitCount(set) == m.r() : true;
            if (kind == 1) {
                belongs = !m.independent(set);
            }
            for (int e = 0; e < m.n; e++) {
                boolean in = (set >> e & 1) != 0;
                if (kind == 1 && in) {
                    belongs &= m.independent(set ^ 1 << e);
                }
                if (kind == 3 && !in) {
                    belongs &= m.rank(set | 1 << e) > m.rank(set);
                }
            }
            if (belongs) {
                members.add(set);
            }
        }
        return members;
    }

    static BigInteger choose(int n, int k) {
        BigInteger c = BigInteger.ONE;
        for (int i = 0; i < k; i++) {
            c = c.multiply(BigInteger.valueOf(n - i)).divide(BigInteger.valueOf(i + 1));
        }
        return c;
    }

    /** Of the coefficient of x^i y^j. */
    static long[][] tutte(Mat m) {
        long[][] sum = new long[14][14];
        for (int set = 0; set <= m.all(); set++) {
            int x = m.r() - m.rank(set);
            int y = Integer.bitCount(set) - m.rank(set);
            for (int i = 0; i <= x; i++) {
                for (int j = 0; j <= y; j++) {
                    long term = choose(x, i).multiply(choose(y, j)).longValueExact();
                    sum[i][j] += (x - i + y - j) % 2 == 0 ? term : -term;
                }
            }
        }
        return sum;
    }

    static int best(Mat m) {
        int best = -1;
        int most = Integer.MIN_VALUE;
        for (int basis : list(m, 0)) {
            int total = 0;
            for (int e = 0; e < m.n; e++) {
                total += (basis >> e & 1) * m.weights[e];
            }
            if (total > most) {
                most = total;
                best = basis;
            }
        }
        return best;
    }

    static int common(Mat a, Mat b) {
        int best = 0;
        for (int set : sets(a.n)) {
            if (Integer.bitCount(set) > Integer.bitCount(best) && a.independent(set) && b.independent(set)) {
                best = set;
            }
        }
        return best;
    }

    static int cover(Mat a, Mat b) {
        int size = Integer.bitCount(common(a, b));
        List<Integer> covers = new ArrayList<>();
        for (int set = 0; set <= a.all(); set++) {
            if (a.rank(set) + b.rank(b.all() & ~set) == size) {
                covers.add(set);
            }
        }
        for (int least : covers) {
            boolean within = true;
            for (int other : covers) {
                within &= (least & ~other) == 0;
            }
            if (within) {
                return least;
            }
        }
        throw new AssertionError("no cover is within all others");
    }

    /** Of the reduced rows, which makes the first basis 1. */
    static int sign(Mat m, int set) {
        List<Num[]> square = new ArrayList<>();
        for (Num[] row : places(m.rows, set, m.n)) {
            square.add(row.clone());
        }
        int size = m.r();
        int sign = 1;
        for (int c = 0; c < size; c++) {
            int pivot = c;
            while (pivot < size && square.get(pivot)[c].zero()) {
                pivot++;
            }
            if (pivot == size) {
                return 0;
            }
            if (pivot != c) {
                Num[] swap = square.get(c);
                square.set(c, square.get(pivot));
                square.set(pivot, swap);
                sign = -sign;
            }
            sign *= square.get(c)[c].top.signum();
            for (int i = c + 1; i < size; i++) {
                Num factor = square.get(i)[c].over(square.get(c)[c]);
                for (int j = c; j < size; j++) {
                    square.get(i)[j] = square.get(i)[j].less(factor.times(square.get(c)[j]));
                }
            }
        }
        return sign;
    }

    /** The signs of a circuit, -1 0 1 in each place. */
    static int[] signs(Mat m, int circuit) {
        int many = Integer.bitCount(circuit);
        List<Num[]> rows = orthogonal(places(m.rows, circuit, m.n), many, m.prime);
        if (rows.size() != 1) {
            throw new AssertionError("no circuit");
        }
        int[] signs = new int[m.n];
        int place = 0;
        for (int e = 0; e < m.n; e++) {
            if ((circuit >> e & 1) != 0) {
                signs[e] = rows.get(0)[place].top.signum() * rows.get(0)[0].top.signum();
                place++;
            }
        }
        return signs;
    }

    /** C, D and the images; null when it is no minor. */
    static int[] witness(Mat m, Mat p) {
        for (int kept : sets(m.n)) {
            if (Integer.bitCount(kept) == p.n) {
                for (int c : sets(m.n)) {
                    boolean apart = (c & kept) == 0 && asManyBases(m, p, kept, c);
                    int[] images = apart ? images(m, p, kept, c, new int[0]) : null;
                    if (images != null) {
                        int[] all = new int[p.n + 2];
                        all[0] = c;
                        all[1] = m.all() & ~kept & ~c;
                        System.arraycopy(images, 0, all, 2, p.n);
                        return all;
                    }
                }
            }
        }
        return null;
    }

    // Saves the search for images where there can be none: among many loops it would take hours.
    private static boolean asManyBases(Mat m, Mat p, int kept, int c) {
        if (m.rank(kept | c) - m.rank(c) != p.r()) {
            return false;
        }
        int more = 0;
        for (int set = 0; set <= p.all(); set++) {
            more += p.rank(set) == p.r() && Integer.bitCount(set) == p.r() ? 1 : 0;
        }
        for (int set = 0; set <= m.all(); set++) {
            boolean within = (set & ~kept) == 0 && Integer.bitCount(set) == p.r();
            more -= within && m.rank(set | c) - m.rank(c) == p.r() ? 1 : 0;
        }
        return more == 0;
    }

    private static int[] images(Mat m, Mat p, int kept, int c, int[] begun) {
        int e = begun.length;
        for (int set = 0; e > 0 && set < 1 << e - 1; set++) {
            int with = set | 1 << e - 1;
            int image = c;
            for (int i = 0; i < e; i++) {
                image |= (with >> i & 1) << begun[i];
            }
            if (p.rank(with) != m.rank(image) - m.rank(c)) {
                return null;
            }
        }
        if (e == p.n) {
            return begun;
        }
        for (int f = 0; f < m.n; f++) {
            int one = f;
            if ((kept >> f & 1) != 0 && Arrays.stream(begun).noneMatch(b -> b == one)) {
                int[] longer = Arrays.copyOf(begun, e + 1);
                longer[e] = f;
                int[] images = images(m, p, kept, c, longer);
                if (images != null) {
                    return images;
                }
            }
        }
        return null;
    }

    static String text(int set) {
        List<String> elements = new ArrayList<>();
        for (int e = 0; e < 12; e++) {
            if ((set >> e & 1) != 0) {
                elements.add(String.valueOf(e));
            }
        }
        return "{" + String.join(" ", elements) + "}\n";
    }

    static String tutteText(Mat m) {
        long[][] tutte = tutte(m);
        List<String> terms = new ArrayList<>();
        for (int i = 13; i >= 0; i--) {
            for (int j = 13; j >= 0; j--) {
                if (tutte[i][j] != 0) {
                    List<String> factors = new ArrayList<>();
                    if (tutte[i][j] != 1 || i + j == 0) {
                        factors.add(String.valueOf(tutte[i][j]));
                    }
                    if (i > 0) {
                        factors.add(i == 1 ? "x" : "x^" + i);
                    }
                    if (j > 0) {
                        factors.add(j == 1 ? "y" : "y^" + j);
                    }
                    terms.add(String.join(" ", factors));
                }
            }
        }
        return String.join(" + ", terms) + "\n";
    }

    static String signText(int sign) {
        return sign < 0 ? "-" : sign > 0 ? "+" : "0";
    }

    int run(String script) {
        try {
            tokens = split(script);
            at = 0;
            int many = 0;
            while (!tokens.get(at).text.isEmpty()) {
                many++;
                if (many > 400) {
                    throw new Refused(tokens.get(at).start);
                }
                statement(false);
            }
        } catch (Refused refused) {
            place = refused.place;
            return -1;
        } catch (Stopped never) {
            throw new AssertionError();
        }
        product = "";
        why = 0;
        at = 0;
        int done = 0;
        try {
            while (!tokens.get(at).text.isEmpty()) {
                String more = statement(true);
                if (product.length() + more.length() > 65536) {
                    throw new Stopped(7);
                }
                product += more;
                done++;
            }
        } catch (Stopped stopped) {
            why = stopped.why;
        } catch (Refused never) {
            throw new AssertionError();
        }
        return done;
    }

    // What is no token ends the row with a token of its own, which can stand nowhere.
    private static List<Token> split(String script) {
        List<Token> found = new ArrayList<>();
        Matcher matcher = Pattern.compile("([ \\n\\r\\t]|#[^\\n]*)|([a-zA-Z]+|-?[0-9]{1,3}(?![0-9])|[{},=;])").matcher(script);
        int from = 0;
        while (from < script.length()) {
            matcher.region(from, script.length());
            matcher.useTransparentBounds(true);
            if (!matcher.lookingAt()) {
                found.add(new Token("!", from));
                return found;
            }
            if (matcher.group(2) != null) {
                found.add(new Token(matcher.group(2), from));
            }
            from = matcher.end();
        }
        found.add(new Token("", script.length()));
        return found;
    }

    private String take(String pattern) throws Refused {
        Token token = tokens.get(at);
        if (!token.text.matches(pattern)) {
            throw new Refused(token.start);
        }
        at++;
        return token.text;
    }

    private boolean next(String pattern) {
        return tokens.get(at).text.matches(pattern);
    }

    private int takeNumber() throws Refused {
        return Integer.parseInt(take("-?[0-9]+"));
    }

    private Mat takeMat(boolean doing, List<Mat> told) throws Refused {
        Mat m = mats[take("[a-z]").charAt(0) - 'a'];
        told.add(m);
        return m;
    }

    private List<List<Integer>> takeRows(boolean commas) throws Refused {
        List<List<Integer>> rows = new ArrayList<>();
        take("\\{");
        if (!next("\\}")) {
            rows.add(new ArrayList<>());
        }
        while (next("-?[0-9]+") || commas && next(",")) {
            if (next(",")) {
                take(",");
                rows.add(new ArrayList<>());
            } else {
                rows.get(rows.size() - 1).add(takeNumber());
            }
        }
        take("\\}");
        return rows;
    }

    private static void must(boolean holds, int why) throws Stopped {
        if (!holds) {
            throw new Stopped(why);
        }
    }

    private String statement(boolean doing) throws Refused, Stopped {
        if (next("[a-z]")) {
            int target = take("[a-z]").charAt(0) - 'a';
            take("=");
            Mat made = making(doing);
            take(";");
            if (doing) {
                mats[target] = made;
            }
            return "";
        }
        String printed = other(doing);
        take(";");
        return printed;
    }

    private Mat making(boolean doing) throws Refused, Stopped {
        String verb = take("matrix|graph|uniform|dual|delete|contract|sum|copy");
        List<Mat> told = new ArrayList<>();
        switch (verb) {
            case "matrix":
                return matrix(doing);
            case "graph":
                return graph(doing);
            case "uniform":
                int r = takeNumber();
                int n = takeNumber();
                if (!doing) {
                    return null;
                }
                must(n >= 0 && n <= 12 && r >= 0 && r <= n, 2);
                List<Num[]> powers = new ArrayList<>();
                for (int k = 0; k < r; k++) {
                    Num[] row = new Num[n];
                    for (int e = 0; e < n; e++) {
                        row[e] = Num.of(BigInteger.valueOf(e).pow(k), BigInteger.ONE, 0);
                    }
                    powers.add(row);
                }
                return new Mat(0, n, powers);
            case "delete":
            case "contract":
                Mat of = takeMat(doing, told);
                List<List<Integer>> rows = takeRows(false);
                if (!doing) {
                    return null;
                }
                must(of != null, 1);
                int set = 0;
                for (int e : rows.isEmpty() ? List.<Integer>of() : rows.get(0)) {
                    must(e >= 0 && e < of.n && 1 << e > set, 2);
                    set |= 1 << e;
                }
                return verb.equals("delete") ? delete(of, set) : contract(of, set);
            default:
                Mat first = takeMat(doing, told);
                Mat second = verb.equals("sum") ? takeMat(doing, told) : null;
                if (!doing) {
                    return null;
                }
                must(!told.contains(null), 1);
                if (verb.equals("sum")) {
                    must(first.n + second.n <= 12, 3);
                    must(first.prime == second.prime, 4);
                    return sum(first, second);
                }
                if (verb.equals("dual")) {
                    return dual(first);
                }
                Mat copy = new Mat(first.prime, first.n, first.rows);
                copy.weights = first.weights.clone();
                return copy;
        }
    }

    private Mat matrix(boolean doing) throws Refused, Stopped {
        String f = take("Q|-?[0-9]+");
        int n = takeNumber();
        List<List<Integer>> numbers = takeRows(true);
        if (!doing) {
            return null;
        }
        int prime = f.equals("Q") ? 0 : Integer.parseInt(f);
        must(prime == 0 && f.equals("Q") || prime >= 2 && prime <= 251 && BigInteger.valueOf(prime).isProbablePrime(40), 2);
        must(n >= 0 && n <= 12 && numbers.size() <= 12, 2);
        List<Num[]> rows = new ArrayList<>();
        for (List<Integer> row : numbers) {
            must(row.size() == n, 2);
            Num[] nums = new Num[n];
            for (int i = 0; i < n; i++) {
                nums[i] = Num.of(row.get(i), prime);
            }
            rows.add(nums);
        }
        return new Mat(prime, n, rows);
    }

    private Mat graph(boolean doing) throws Refused, Stopped {
        int v = takeNumber();
        List<int[]> edges = new ArrayList<>();
        take("\\{");
        if (!next("\\}")) {
            edges.add(new int[] {takeNumber(), takeNumber()});
            while (next(",")) {
                take(",");
                edges.add(new int[] {takeNumber(), takeNumber()});
            }
        }
        take("\\}");
        if (!doing) {
            return null;
        }
        must(v >= 1 && v <= 13 && edges.size() <= 12, 2);
        List<Num[]> rows = new ArrayList<>();
        for (int p = 0; p < v; p++) {
            Num[] row = new Num[edges.size()];
            for (int e = 0; e < row.length; e++) {
                int[] ends = edges.get(e);
                must(ends[0] >= 0 && ends[0] < v && ends[1] >= 0 && ends[1] < v, 2);
                row[e] = Num.of((ends[1] == p ? 1 : 0) - (ends[0] == p ? 1 : 0), 0);
            }
            rows.add(row);
        }
        return new Mat(0, edges.size(), rows);
    }

    private String other(boolean doing) throws Refused, Stopped {
        String verb = take("weights|rank|bases|circuits|cocircuits|flats|tutte|best|common|chirotope|signs|minor|show");
        List<Mat> told = new ArrayList<>();
        Mat m = takeMat(doing, told);
        Mat second = verb.equals("common") || verb.equals("minor") ? takeMat(doing, told) : null;
        List<List<Integer>> numbers = verb.equals("weights") ? takeRows(false) : List.of();
        if (!doing) {
            return "";
        }
        must(!told.contains(null), 1);
        StringBuilder text = new StringBuilder();
        switch (verb) {
            case "weights":
                List<Integer> row = numbers.isEmpty() ? List.of() : numbers.get(0);
                must(row.size() == m.n, 2);
                m.weights = row.stream().mapToInt(w -> w).toArray();
                break;
            case "rank":
                text.append(m.r()).append('\n');
                break;
            case "tutte":
                text.append(tutteText(m));
                break;
            case "best":
                text.append(text(best(m)));
                break;
            case "common":
                must(m.n == second.n, 6);
                text.append(text(common(m, second))).append(text(cover(m, second)));
                break;
            case "chirotope":
                must(m.prime == 0, 5);
                for (int set : sets(m.n)) {
                    text.append(Integer.bitCount(set) == m.r() ? signText(sign(m, set)) : "");
                }
                text.append('\n');
                break;
            case "signs":
                must(m.prime == 0, 5);
                for (int circuit : list(m, 1)) {
                    for (int s : signs(m, circuit)) {
                        text.append(signText(s));
                    }
                    text.append('\n');
                }
                break;
            case "minor":
                text.append(minorText(m, second));
                break;
            case "show":
                for (Num[] shown : m.rows) {
                    List<String> parts = new ArrayList<>();
                    for (Num one : shown) {
                        parts.add(one.toString());
                    }
                    text.append(String.join(" ", parts)).append('\n');
                }
                break;
            default:
                for (int set : list(m, List.of("bases", "circuits", "cocircuits", "flats").indexOf(verb))) {
                    text.append(text(set));
                }
                break;
        }
        return text.toString();
    }

    private static String minorText(Mat m, Mat p) {
        int[] found = witness(m, p);
        if (found == null) {
            return "no\n";
        }
        List<String> images = new ArrayList<>();
        for (int i = 2; i < found.length; i++) {
            images.add(String.valueOf(found[i]));
        }
        return text(found[0]) + text(found[1]) + String.join(" ", images) + "\n";
    }
}
