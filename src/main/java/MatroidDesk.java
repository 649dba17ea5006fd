import java.util.Arrays;

/** Builds matroids of matrices and graphs by scripts, and tells of them exactly. */
public final class MatroidDesk {
    public static final int NONE = -1;

    private static final int LETTERS = 26;
    private static final int MOST_ELEMENTS = 12;
    private static final int MOST_ROWS = 12;
    private static final int MOST_POINTS = 13;
    private static final int MOST_PRIME = 251;
    private static final int MOST_BYTES = 16384;
    private static final int MOST_STATEMENTS = 400;
    private static final int MOST_PRINTED = 65536;
    private static final int FEED_BYTES = 20;
    private static final int NO_SIGN = 2;

    private static final int BASES = 0;
    private static final int CIRCUITS = 1;
    private static final int COCIRCUITS = 2;
    private static final int FLATS = 3;
    private static final int KINDS = 4;

    private static final int TAIL_NONE = 0;
    private static final int TAIL_NUMBERS = 1;
    private static final int TAIL_ROWS = 2;
    private static final int TAIL_EDGES = 3;

    // Kinds of tokens; a token that is one sign has the sign's own byte for its kind.
    private static final int TOKEN_END = 0;
    private static final int TOKEN_STRAY = 1;
    private static final int TOKEN_WORD = 2;
    private static final int TOKEN_NUMBER = 3;

    private static final int WHY_NO_MATROID = 1;
    private static final int WHY_NUMBERS = 2;
    private static final int WHY_TOO_MANY = 3;
    private static final int WHY_FIELDS = 4;
    private static final int WHY_NOT_RATIONAL = 5;
    private static final int WHY_UNEQUAL = 6;
    private static final int WHY_PRINTED = 7;

    private byte[] bytes;
    private int fed;
    private int refusedAt;
    private int reason;
    private int stamps;
    private Matroid spare;
    private final Matroid[] matroids;
    private final int[] entries;
    private final Orders orders;
    private final Minors minors;
    private final Witness witness;
    private final Tokens tokens;
    private final Statement statement;
    private final Product product;

    public MatroidDesk() {
        bytes = new byte[512];
        fed = 0;
        refusedAt = NONE;
        reason = 0;
        stamps = 0;
        spare = null;
        matroids = new Matroid[LETTERS];
        entries = new int[MOST_POINTS * MOST_ELEMENTS];
        orders = new Orders();
        minors = new Minors(orders);
        witness = new Witness(orders);
        tokens = new Tokens();
        statement = new Statement(tokens);
        product = new Product();
    }

    public void feed(int a, int b, int c, int d, int e) throws IllegalStateException {
        if (fed + FEED_BYTES > MOST_BYTES) {
            throw new IllegalStateException("more than 16384 bytes");
        }
        if (fed + FEED_BYTES > bytes.length) {
            bytes = Arrays.copyOf(bytes, 2 * bytes.length);
        }
        takeInt(a);
        takeInt(b);
        takeInt(c);
        takeInt(d);
        takeInt(e);
    }

    public int end(int n) throws IllegalArgumentException {
        if (n < 0 || n > fed) {
            throw new IllegalArgumentException("not so many bytes came in");
        }
        int before = fed;
        fed = n;
        return before;
    }

    public int run() {
        int length = fed;
        fed = 0;
        if (!readsWhole(length)) {
            refusedAt = tokens.start;
            return NONE;
        }
        product.cutTo(0);
        reason = 0;
        int done = 0;
        tokens.open(bytes, length);
        for (int i = 0; i < MOST_STATEMENTS && reason == 0 && tokens.kind != TOKEN_END; i++) {
            int before = product.length;
            reason = statement.read() ? obstacle() : WHY_NUMBERS;
            if (reason == 0 && statement.verb.makes) {
                make();
            } else if (reason == 0) {
                tell(matroidAt(statement.first));
            }
            if (product.full) {
                product.cutTo(before);
                reason = WHY_PRINTED;
            }
            done += reason == 0 ? 1 : 0;
        }
        return done;
    }

    public int place() {
        return refusedAt;
    }

    public int why() {
        return reason;
    }

    public int printed() {
        return product.length;
    }

    public int out(int i) {
        return i < 0 || i >= product.length ? NONE : product.bytes[i];
    }

    public int elements(int m) {
        Matroid matroid = matroidAt(m);
        return matroid == null ? NONE : matroid.size;
    }

    public int field(int m) {
        Matroid matroid = matroidAt(m);
        return matroid == null ? NONE : matroid.field;
    }

    public int rank(int m, int set) {
        Matroid matroid = matroidAt(m);
        return matroid == null || !matroid.holds(set) ? NONE : matroid.rankOf(set);
    }

    public int count(int m, int kind) {
        Matroid matroid = matroidAt(m);
        return matroid == null || kind < 0 || kind >= KINDS ? NONE : matroid.howMany(kind);
    }

    public int member(int m, int kind, int i) {
        Matroid matroid = matroidAt(m);
        if (matroid == null || kind < 0 || kind >= KINDS || i < 0 || i >= matroid.howMany(kind)) {
            return NONE;
        }
        return matroid.lists[kind][i];
    }

    public long tutte(int m, int i, int j) {
        Matroid matroid = matroidAt(m);
        return matroid == null ? 0 : matroid.coefficient(i, j);
    }

    public int weight(int m, int e) {
        Matroid matroid = matroidAt(m);
        return matroid == null || e < 0 || e >= matroid.size ? 0 : matroid.weights[e];
    }

    public int best(int m) {
        Matroid matroid = matroidAt(m);
        return matroid == null ? NONE : matroid.bestBasis();
    }

    public int common(int m, int n) {
        Matroid first = matroidAt(m);
        Matroid second = matroidAt(n);
        boolean fit = first != null && second != null && first.size == second.size;
        return fit ? first.commonSet(second) : NONE;
    }

    public int cover(int m, int n) {
        Matroid first = matroidAt(m);
        Matroid second = matroidAt(n);
        boolean fit = first != null && second != null && first.size == second.size;
        return fit ? first.coverSet(second) : NONE;
    }

    public int sign(int m, int set) {
        Matroid matroid = matroidAt(m);
        if (matroid == null || matroid.field != 0 || !matroid.holds(set)) {
            return NO_SIGN;
        }
        return Integer.bitCount(set) == matroid.rank ? matroid.signs[set] : NO_SIGN;
    }

    public int below(int m, int i) {
        Matroid matroid = matroidAt(m);
        if (matroid == null || matroid.field != 0 || i < 0 || i >= matroid.howMany(CIRCUITS)) {
            return NONE;
        }
        return matroid.negatives(matroid.lists[CIRCUITS][i]);
    }

    public int contracted(int m, int n) {
        return isMinor(m, n) ? witness.contractedSet : NONE;
    }

    public int deleted(int m, int n) {
        return isMinor(m, n) ? witness.deletedSet : NONE;
    }

    public int image(int m, int n, int e) {
        Matroid guest = matroidAt(n);
        boolean there = guest != null && e >= 0 && e < guest.size;
        return there && isMinor(m, n) ? witness.imageOf(e) : NONE;
    }

    private boolean isMinor(int m, int n) {
        Matroid host = matroidAt(m);
        Matroid guest = matroidAt(n);
        return host != null && guest != null && witness.finds(host, guest);
    }

    private Matroid matroidAt(int letter) {
        return letter < 0 || letter >= LETTERS ? null : matroids[letter];
    }

    private void takeInt(int value) {
        for (int shift = 24; shift >= 0; shift -= 8) {
            bytes[fed] = (byte) (value >> shift);
            fed++;
        }
    }

    private boolean readsWhole(int length) {
        tokens.open(bytes, length);
        for (int i = 0; i < MOST_STATEMENTS && tokens.kind != TOKEN_END; i++) {
            if (!statement.read()) {
                return false;
            }
        }
        return tokens.kind == TOKEN_END;
    }

    private int obstacle() {
        Verb verb = statement.verb;
        Matroid first = matroidAt(statement.first);
        Matroid second = matroidAt(statement.second);
        if (verb.names > 0 && first == null || verb.names > 1 && second == null) {
            return WHY_NO_MATROID;
        }
        if (statement.numbersWrong(first == null ? 0 : first.size)) {
            return WHY_NUMBERS;
        }
        if (first != null && second != null) {
            return obstacleOfTwo(verb, first, second);
        }
        boolean signed = verb == Verb.CHIROTOPE || verb == Verb.SIGNS;
        return signed && first != null && first.field != 0 ? WHY_NOT_RATIONAL : 0;
    }

    private static int obstacleOfTwo(Verb verb, Matroid first, Matroid second) {
        if (verb == Verb.SUM && first.size + second.size > MOST_ELEMENTS) {
            return WHY_TOO_MANY;
        }
        if (verb == Verb.SUM && first.field != second.field) {
            return WHY_FIELDS;
        }
        return verb == Verb.COMMON && first.size != second.size ? WHY_UNEQUAL : 0;
    }

    private void make() {
        Matroid made = spare == null ? new Matroid(orders) : spare;
        Matroid first = matroidAt(statement.first);
        if (first == null) {
            makeOfNumbers(made);
        } else {
            makeOfMatroid(made, first);
        }
        stamps++;
        made.stamp = stamps;
        spare = matroids[statement.target];
        matroids[statement.target] = made;
    }

    private void makeOfNumbers(Matroid made) {
        int head = statement.head;
        switch (statement.verb) {
            case MATRIX:
                made.span(minors, minors.gather(statement.field, head, statement.numbers, statement.rows));
                break;
            case GRAPH:
                int edges = statement.many / 2;
                layGraph(edges, head);
                made.span(minors, minors.gather(0, edges, entries, head));
                break;
            default:
                layUniform(head, statement.next);
                made.span(minors, minors.gather(0, statement.next, entries, head));
                break;
        }
    }

    private void makeOfMatroid(Matroid made, Matroid first) {
        Matroid second = matroidAt(statement.second);
        int set = statement.asSet(first.size);
        switch (statement.verb) {
            case DUAL:
                made.turn(first);
                break;
            case DELETE:
                made.remove(first, set, first.raisers(first.all() & ~set, set));
                break;
            case CONTRACT:
                made.remove(first, set, first.raisers(0, set));
                break;
            default:
                if (second == null) {
                    made.repeat(first);
                } else {
                    made.join(first, second);
                }
                break;
        }
    }

    private void layGraph(int edges, int points) {
        Arrays.fill(entries, 0, edges * points, 0);
        for (int e = 0; e < edges; e++) {
            int a = statement.numbers[2 * e];
            int b = statement.numbers[2 * e + 1];
            if (a != b) {
                entries[a * edges + e] = -1;
                entries[b * edges + e] = 1;
            }
        }
    }

    // The rows "e over k" span the same as the rows e^k, with numbers that stay small.
    private void layUniform(int rank, int size) {
        for (int k = 0; k < rank; k++) {
            for (int e = 0; e < size; e++) {
                int at = k * size + e;
                if (k == 0) {
                    entries[at] = 1;
                } else {
                    entries[at] = e == 0 ? 0 : entries[at - 1] + entries[at - size - 1];
                }
            }
        }
    }

    private void tell(Matroid first) {
        if (first == null) {
            return;
        }
        switch (statement.verb) {
            case WEIGHTS:
                System.arraycopy(statement.numbers, 0, first.weights, 0, first.size);
                break;
            case RANK:
                product.number(first.rank);
                product.put('\n');
                break;
            case BASES:
                tellList(first, BASES);
                break;
            case CIRCUITS:
                tellList(first, CIRCUITS);
                break;
            case COCIRCUITS:
                tellList(first, COCIRCUITS);
                break;
            case FLATS:
                tellList(first, FLATS);
                break;
            case TUTTE:
                tellTutte(first);
                break;
            case BEST:
                product.setLine(first.bestBasis());
                break;
            case COMMON:
                tellCommon(first, matroidAt(statement.second));
                break;
            case CHIROTOPE:
                tellChirotope(first);
                break;
            case SIGNS:
                tellSigns(first);
                break;
            case MINOR:
                tellMinor(first, matroidAt(statement.second));
                break;
            default:
                tellRows(first);
                break;
        }
    }

    private void tellList(Matroid matroid, int kind) {
        int many = matroid.howMany(kind);
        for (int i = 0; i < many; i++) {
            product.setLine(matroid.lists[kind][i]);
        }
    }

    private void tellTutte(Matroid matroid) {
        boolean first = true;
        for (int i = matroid.rank; i >= 0; i--) {
            for (int j = matroid.size - matroid.rank; j >= 0; j--) {
                long coefficient = matroid.coefficient(i, j);
                if (coefficient != 0) {
                    product.text(first ? "" : " + ");
                    product.term(coefficient, i, j);
                    first = false;
                }
            }
        }
        product.put('\n');
    }

    private void tellCommon(Matroid first, Matroid second) {
        if (second != null) {
            product.setLine(first.commonSet(second));
            product.setLine(first.coverSet(second));
        }
    }

    private void tellChirotope(Matroid matroid) {
        int to = orders.start(matroid.size, matroid.rank + 1);
        for (int i = orders.start(matroid.size, matroid.rank); i < to; i++) {
            product.mark(matroid.signs[orders.set(matroid.size, i)]);
        }
        product.put('\n');
    }

    private void tellSigns(Matroid matroid) {
        int many = matroid.howMany(CIRCUITS);
        for (int i = 0; i < many; i++) {
            int circuit = matroid.lists[CIRCUITS][i];
            int negative = matroid.negatives(circuit);
            for (int e = 0; e < matroid.size; e++) {
                product.mark((circuit >> e & 1) - 2 * (negative >> e & 1));
            }
            product.put('\n');
        }
    }

    private void tellMinor(Matroid host, Matroid guest) {
        if (guest == null || !witness.finds(host, guest)) {
            product.text("no\n");
            return;
        }
        product.setLine(witness.contractedSet);
        product.setLine(witness.deletedSet);
        for (int e = 0; e < guest.size; e++) {
            product.text(e == 0 ? "" : " ");
            product.number(witness.imageOf(e));
        }
        product.put('\n');
    }

    private void tellRows(Matroid matroid) {
        int basis = matroid.firstBasis();
        for (int pivot = 0; pivot < matroid.size; pivot++) {
            if ((basis >> pivot & 1) != 0) {
                tellRow(matroid, basis, pivot);
            }
        }
    }

    private void tellRow(Matroid matroid, int basis, int pivot) {
        Part part = matroid.parts[pivot];
        if (part == null) {
            return;
        }
        int chosen = matroid.chosenColumns(part, basis);
        int pivotColumn = 1 << matroid.columns[pivot];
        minors.load(part.source);
        for (int e = 0; e < matroid.size; e++) {
            product.text(e == 0 ? "" : " ");
            if (e == pivot) {
                product.put('1');
            } else if ((basis >> e & 1) != 0 || matroid.parts[e] != part) {
                product.put('0');
            } else {
                minors.writeRatio(product, chosen, pivotColumn | 1 << matroid.columns[e], part.turned);
            }
        }
        product.put('\n');
    }

    // Whether an odd number of a set's elements stand between the two of a pair.
    private static boolean crossesOdd(int set, int pair) {
        int least = pair & -pair;
        int between = (pair ^ least) - 1 & ~(2 * least - 1);
        return (Integer.bitCount(set & between) & 1) != 0;
    }

    private enum Verb {
        MATRIX("matrix", true, true, 1, 0, TAIL_ROWS),
        GRAPH("graph", true, false, 1, 0, TAIL_EDGES),
        UNIFORM("uniform", true, false, 2, 0, TAIL_NONE),
        DUAL("dual", true, false, 0, 1, TAIL_NONE),
        DELETE("delete", true, false, 0, 1, TAIL_NUMBERS),
        CONTRACT("contract", true, false, 0, 1, TAIL_NUMBERS),
        SUM("sum", true, false, 0, 2, TAIL_NONE),
        COPY("copy", true, false, 0, 1, TAIL_NONE),
        WEIGHTS("weights", false, false, 0, 1, TAIL_NUMBERS),
        RANK("rank", false, false, 0, 1, TAIL_NONE),
        BASES("bases", false, false, 0, 1, TAIL_NONE),
        CIRCUITS("circuits", false, false, 0, 1, TAIL_NONE),
        COCIRCUITS("cocircuits", false, false, 0, 1, TAIL_NONE),
        FLATS("flats", false, false, 0, 1, TAIL_NONE),
        TUTTE("tutte", false, false, 0, 1, TAIL_NONE),
        BEST("best", false, false, 0, 1, TAIL_NONE),
        COMMON("common", false, false, 0, 2, TAIL_NONE),
        CHIROTOPE("chirotope", false, false, 0, 1, TAIL_NONE),
        SIGNS("signs", false, false, 0, 1, TAIL_NONE),
        MINOR("minor", false, false, 0, 2, TAIL_NONE),
        SHOW("show", false, false, 0, 1, TAIL_NONE);

        private static final Verb[] ALL = values();

        private final String word;
        private final boolean makes;
        private final boolean fielded;
        private final int heads;
        private final int names;
        private final int tail;

        Verb(String word, boolean makes, boolean fielded, int heads, int names, int tail) {
            this.word = word;
            this.makes = makes;
            this.fielded = fielded;
            this.heads = heads;
            this.names = names;
            this.tail = tail;
        }
    }

    /** Takes a script apart, one token at a time. */
    private static final class Tokens {
        private byte[] script;
        private int length;
        private int behind;
        private int start;
        private int kind;
        private int value;

        Tokens() {
            script = new byte[0];
        }

        void open(byte[] bytes, int many) {
            script = bytes;
            length = many;
            behind = 0;
            step();
        }

        void step() {
            skipBlanks();
            start = behind;
            if (behind >= length) {
                kind = TOKEN_END;
                return;
            }
            int c = script[behind];
            behind++;
            if (isLetter(c)) {
                takeWord();
            } else if (c == '-' || isDigit(c)) {
                takeNumber(c);
            } else {
                boolean mark = c == '{' || c == '}' || c == ',' || c == '=' || c == ';';
                kind = mark ? c : TOKEN_STRAY;
            }
        }

        boolean isWord(String word) {
            if (kind != TOKEN_WORD || behind - start != word.length()) {
                return false;
            }
            for (int i = 0; i < word.length(); i++) {
                if (script[start + i] != word.charAt(i)) {
                    return false;
                }
            }
            return true;
        }

        int letter() {
            if (kind != TOKEN_WORD || behind - start != 1 || script[start] < 'a') {
                return NONE;
            }
            return script[start] - 'a';
        }

        private void skipBlanks() {
            boolean comment = false;
            for (; behind < length; behind++) {
                int c = script[behind];
                comment = c == '#' || comment && c != '\n';
                if (!comment && c != ' ' && c != '\n' && c != '\r' && c != '\t') {
                    return;
                }
            }
        }

        private void takeWord() {
            kind = TOKEN_WORD;
            while (behind < length && isLetter(script[behind])) {
                behind++;
            }
        }

        private void takeNumber(int c) {
            int digits = c == '-' ? 0 : 1;
            int amount = c == '-' ? 0 : c - '0';
            for (; behind < length && isDigit(script[behind]); behind++) {
                digits++;
                amount = digits > 3 ? 0 : 10 * amount + script[behind] - '0';
            }
            kind = digits >= 1 && digits <= 3 ? TOKEN_NUMBER : TOKEN_STRAY;
            value = c == '-' ? -amount : amount;
        }

        private static boolean isLetter(int c) {
            return c >= 'a' && c <= 'z' || c >= 'A' && c <= 'Z';
        }

        private static boolean isDigit(int c) {
            return c >= '0' && c <= '9';
        }
    }

    /** One statement of a script, as it was read. */
    private static final class Statement {
        private static final int MOST_KEPT = 160;

        private final Tokens tokens;
        private final int[] numbers;
        private Verb verb;
        private int target;
        private int first;
        private int second;
        private int field;
        private int head;
        private int next;
        private int many;
        private int rows;
        private boolean even;

        Statement(Tokens tokens) {
            this.tokens = tokens;
            numbers = new int[MOST_KEPT];
            verb = Verb.SHOW;
        }

        /** Reads the statement that begins here; if there is none, the tokens stay at the one that is wrong. */
        boolean read() {
            first = NONE;
            second = NONE;
            many = 0;
            rows = 0;
            even = true;
            return readVerb() && readField() && readHeads() && readNames() && readTail() && skip(';');
        }

        boolean numbersWrong(int size) {
            switch (verb) {
                case MATRIX:
                    return field == NONE || head < 0 || head > MOST_ELEMENTS || rows > MOST_ROWS || !even;
                case GRAPH:
                    return head < 1 || head > MOST_POINTS || many > 2 * MOST_ELEMENTS || !within(head);
                case UNIFORM:
                    return next < 0 || next > MOST_ELEMENTS || head < 0 || head > next;
                case DELETE:
                case CONTRACT:
                    return many > size || !within(size) || !rises();
                case WEIGHTS:
                    return many != size;
                default:
                    return false;
            }
        }

        int asSet(int size) {
            int set = 0;
            for (int i = 0; i < many && i < size; i++) {
                set |= 1 << numbers[i];
            }
            return set;
        }

        private boolean readVerb() {
            target = tokens.letter();
            if (target != NONE) {
                tokens.step();
                if (!skip('=')) {
                    return false;
                }
            }
            boolean makes = target != NONE;
            for (int i = 0; i < Verb.ALL.length; i++) {
                if (Verb.ALL[i].makes == makes && tokens.isWord(Verb.ALL[i].word)) {
                    verb = Verb.ALL[i];
                    tokens.step();
                    return true;
                }
            }
            return false;
        }

        private boolean readField() {
            field = 0;
            if (verb.fielded && !tokens.isWord("Q")) {
                if (tokens.kind != TOKEN_NUMBER) {
                    return false;
                }
                field = isPrime(tokens.value) ? tokens.value : NONE;
            }
            if (verb.fielded) {
                tokens.step();
            }
            return true;
        }

        private boolean readHeads() {
            head = tokens.value;
            if (verb.heads > 0 && !skip(TOKEN_NUMBER)) {
                return false;
            }
            next = tokens.value;
            return verb.heads < 2 || skip(TOKEN_NUMBER);
        }

        private boolean readNames() {
            if (verb.names > 0) {
                first = tokens.letter();
                if (first == NONE) {
                    return false;
                }
                tokens.step();
            }
            if (verb.names > 1) {
                second = tokens.letter();
                if (second == NONE) {
                    return false;
                }
                tokens.step();
            }
            return true;
        }

        private boolean readTail() {
            if (verb.tail == TAIL_NONE) {
                return true;
            }
            if (!skip('{')) {
                return false;
            }
            if (verb.tail == TAIL_EDGES) {
                return tokens.kind != TOKEN_NUMBER ? skip('}') : readEdges() && skip('}');
            }
            readRows(verb.tail == TAIL_ROWS);
            return skip('}');
        }

        private void readRows(boolean commas) {
            int inRow = 0;
            for (int i = 0; i < MOST_BYTES; i++) {
                if (tokens.kind == TOKEN_NUMBER) {
                    keep();
                    inRow++;
                } else if (commas && tokens.kind == ',') {
                    even = even && inRow == head;
                    rows++;
                    inRow = 0;
                } else {
                    break;
                }
                tokens.step();
            }
            // Braces with nothing between them hold no row, not one of no numbers.
            if (rows > 0 || inRow > 0) {
                even = even && inRow == head;
                rows++;
            }
        }

        private boolean readEdges() {
            for (int i = 0; i < MOST_BYTES; i++) {
                for (int side = 0; side < 2; side++) {
                    if (tokens.kind != TOKEN_NUMBER) {
                        return false;
                    }
                    keep();
                    tokens.step();
                }
                if (tokens.kind != ',') {
                    return true;
                }
                tokens.step();
            }
            return false;
        }

        // What is beyond the room makes the statement impossible by its number alone.
        private void keep() {
            if (many < MOST_KEPT) {
                numbers[many] = tokens.value;
            }
            many++;
        }

        private boolean skip(int kind) {
            if (tokens.kind != kind) {
                return false;
            }
            tokens.step();
            return true;
        }

        private boolean within(int bound) {
            for (int i = 0; i < many && i < MOST_KEPT; i++) {
                if (numbers[i] < 0 || numbers[i] >= bound) {
                    return false;
                }
            }
            return true;
        }

        private boolean rises() {
            for (int i = 1; i < many && i < MOST_KEPT; i++) {
                if (numbers[i] <= numbers[i - 1]) {
                    return false;
                }
            }
            return true;
        }

        private static boolean isPrime(int number) {
            if (number < 2 || number > MOST_PRIME) {
                return false;
            }
            for (int divisor = 2; divisor * divisor <= number; divisor++) {
                if (number % divisor == 0) {
                    return false;
                }
            }
            return true;
        }
    }

    /** All sets of 0 to 12 elements in ORDER; those of n elements stand from 2^n on. */
    private static final class Orders {
        private static final int STRIDE = MOST_ELEMENTS + 2;

        private int[] sets;
        private final int[] starts;
        private int reached;

        Orders() {
            sets = new int[64];
            starts = new int[(MOST_ELEMENTS + 1) * STRIDE];
            sets[1] = 0;
            starts[1] = 1;
            reached = 0;
        }

        /** Makes sure of the sets of up to so many elements. */
        void reach(int size) {
            if (2 << size > sets.length) {
                sets = Arrays.copyOf(sets, 2 << size);
            }
            for (; reached < size; reached++) {
                build(reached + 1);
            }
        }

        int set(int size, int i) {
            return sets[(1 << size) + i];
        }

        /** Where the sets of so many of the elements begin; those of one more than all begin at the end. */
        int start(int size, int many) {
            return starts[size * STRIDE + many];
        }

        // The sets of a size are those with element 0, then those without it: all others behind it, moved up by one.
        private void build(int size) {
            int smaller = 1 << size - 1;
            int to = 1 << size;
            for (int many = 0; many <= size; many++) {
                starts[size * STRIDE + many] = to - (1 << size);
                for (int least = 1; least >= 0; least--) {
                    int row = (size - 1) * STRIDE + Math.max(0, many - least);
                    int end = many < least ? 0 : starts[row + 1];
                    for (int i = starts[row]; i < end; i++) {
                        sets[to] = sets[smaller + i] << 1 | least;
                        to++;
                    }
                }
            }
            starts[size * STRIDE + size + 1] = 1 << size;
        }
    }

    /** Rows that are independent; matroids that come of one another share them. */
    private static final class Source {
        private final int field;
        private final int size;
        private final int height;
        private final int[] rows;

        Source(int field, int size, int height, int[] rows) {
            this.field = field;
            this.size = size;
            this.height = height;
            this.rows = rows;
        }
    }

    /**
     * What became of a source in a matroid: some columns were contracted for good (held),
     * all others that are no elements any more were deleted, and the rest is turned to its dual, or not.
     * The elements of one matroid with the same part are one summand of it.
     */
    private static final class Part {
        private final Source source;
        private final int held;
        private final boolean turned;

        Part(Source source, int held, boolean turned) {
            this.source = source;
            this.held = held;
            this.turned = turned;
        }
    }

    /** The determinants of all sets of columns of a source, exactly: three pieces of 48 bits, the highest with the sign. */
    private static final class Minors {
        private final Orders orders;
        private final Wide top;
        private final Wide bottom;
        private final Wide divisor;
        private final Wide rest;
        private long[] low;
        private long[] middle;
        private long[] high;
        private int field;
        private int size;
        private int height;
        private Source loaded;

        Minors(Orders orders) {
            this.orders = orders;
            top = new Wide();
            bottom = new Wide();
            divisor = new Wide();
            rest = new Wide();
            low = new long[32];
            middle = new long[32];
            high = new long[32];
        }

        /** Of these rows a source of those that depend on none before them, and its determinants. */
        Source gather(int ofField, int columns, int[] table, int rows) {
            clear(ofField, columns);
            int[] independent = new int[Math.min(rows, columns) * columns];
            for (int row = 0; row < rows; row++) {
                if (addsRow(table, row * columns)) {
                    System.arraycopy(table, row * columns, independent, (height - 1) * columns, columns);
                }
            }
            loaded = new Source(ofField, columns, height, independent);
            return loaded;
        }

        void load(Source source) {
            if (source == loaded) {
                return;
            }
            clear(source.field, source.size);
            for (int row = 0; row < source.height; row++) {
                addsRow(source.rows, row * source.size);
            }
            loaded = source;
        }

        int signOf(int set) {
            if (high[set] < 0) {
                return -1;
            }
            return (low[set] | middle[set] | high[set]) == 0 ? 0 : 1;
        }

        /**
         * Writes by what the chosen columns' determinant is multiplied when one column
         * of the two leaves and the other takes its place; of a dual that is turned round.
         */
        void writeRatio(Product product, int chosen, int swap, boolean minus) {
            boolean negative = minus ^ crossesOdd(chosen, swap);
            int other = chosen ^ swap;
            if (field != 0) {
                long ratio = low[other] * inverse(low[chosen]) % field;
                product.number(negative ? Math.floorMod(-ratio, (long) field) : ratio);
                return;
            }
            negative ^= top.takeAmount(low[other], middle[other], high[other]);
            negative ^= bottom.takeAmount(low[chosen], middle[chosen], high[chosen]);
            if (top.isZero() || bottom.isZero()) {
                product.put('0');
                return;
            }
            divisor.takeCommon(top, bottom, rest);
            top.divide(divisor, rest);
            bottom.divide(divisor, rest);
            product.text(negative ? "-" : "");
            product.wide(top);
            if (!bottom.isOne()) {
                product.put('/');
                product.wide(bottom);
            }
        }

        private long inverse(long residue) {
            for (long other = 1; other < field; other++) {
                if (residue * other % field == 1) {
                    return other;
                }
            }
            return 0;
        }

        private void clear(int ofField, int columns) {
            int sets = 1 << columns;
            if (sets > low.length) {
                low = new long[sets];
                middle = new long[sets];
                high = new long[sets];
            }
            orders.reach(columns);
            field = ofField;
            size = columns;
            height = 0;
            loaded = null;
            Arrays.fill(low, 0, sets, 0);
            Arrays.fill(middle, 0, sets, 0);
            Arrays.fill(high, 0, sets, 0);
            low[0] = 1;
        }

        // A row that depends on the rows before it makes all greater determinants 0.
        private boolean addsRow(int[] table, int at) {
            if (height >= size) {
                return false;
            }
            boolean adds = false;
            int end = orders.start(size, height + 2);
            for (int i = orders.start(size, height + 1); i < end; i++) {
                int set = orders.set(size, i);
                expand(set, table, at);
                adds = adds || signOf(set) != 0;
            }
            height += adds ? 1 : 0;
            return adds;
        }

        private void expand(int set, int[] table, int at) {
            long lowest = 0;
            long mid = 0;
            long highest = 0;
            int sign = 1;
            for (int e = size - 1; e >= 0; e--) {
                if ((set >> e & 1) != 0) {
                    long factor = sign * table[at + e];
                    int smaller = set ^ 1 << e;
                    lowest += factor * low[smaller];
                    mid += factor * middle[smaller];
                    highest += factor * high[smaller];
                    sign = -sign;
                }
            }
            if (field != 0) {
                low[set] = Math.floorMod(lowest, (long) field);
                return;
            }
            mid += lowest >> Wide.BITS;
            low[set] = lowest & Wide.MASK;
            middle[set] = mid & Wide.MASK;
            high[set] = highest + (mid >> Wide.BITS);
        }
    }

    /** A number from 0 up, of three pieces of 48 bits. */
    private static final class Wide {
        private static final int BITS = 48;
        private static final long MASK = (1L << BITS) - 1;
        private static final int SHORT_BITS = 15;
        // Each turn halves a number, or takes off one so that the next turn halves.
        private static final int MOST_TURNS = 16 * BITS;

        private long low;
        private long middle;
        private long high;

        /** Takes a number without its sign, and answers whether that was below 0. */
        boolean takeAmount(long lowest, long mid, long highest) {
            boolean negative = highest < 0;
            long a = negative ? -lowest : lowest;
            long b = (negative ? -mid : mid) + (a >> BITS);
            low = a & MASK;
            middle = b & MASK;
            high = (negative ? -highest : highest) + (b >> BITS);
            return negative;
        }

        boolean isZero() {
            return (low | middle | high) == 0;
        }

        boolean isOne() {
            return low == 1 && (middle | high) == 0;
        }

        boolean isShort() {
            return high == 0 && middle >> SHORT_BITS == 0;
        }

        long asLong() {
            return middle << BITS | low;
        }

        /** Becomes the greatest common divisor of two numbers above 0. */
        void takeCommon(Wide a, Wide b, Wide rest) {
            if (a.isShort() && b.isShort()) {
                takeShortCommon(a.asLong(), b.asLong());
                return;
            }
            copy(a);
            rest.copy(b);
            int twos = 0;
            for (int turn = 0; turn < MOST_TURNS && !rest.isZero(); turn++) {
                boolean even = (low & 1) == 0;
                boolean restEven = (rest.low & 1) == 0;
                if (even) {
                    halve();
                }
                if (restEven) {
                    rest.halve();
                }
                twos += even && restEven ? 1 : 0;
                if (!even && !restEven) {
                    if (compareWith(rest) > 0) {
                        swap(rest);
                    }
                    rest.subtract(this);
                }
            }
            for (int i = 0; i < twos; i++) {
                twice(0);
            }
        }

        /** Divides by a number above 0. */
        void divide(Wide by, Wide rest) {
            if (isShort() && by.isShort() && !by.isZero()) {
                takeAmount(asLong() / by.asLong(), 0, 0);
                return;
            }
            rest.takeAmount(0, 0, 0);
            for (int bit = 0; bit < 3 * BITS; bit++) {
                rest.twice((int) (high >> BITS - 1 & 1));
                twice(0);
                high &= MASK;
                if (rest.compareWith(by) >= 0) {
                    rest.subtract(by);
                    low |= 1;
                }
            }
        }

        /** Divides by ten, and answers what is left over. */
        int tenth() {
            long left = high % 10;
            high /= 10;
            left = left << BITS | middle;
            middle = left / 10;
            left = left % 10 << BITS | low;
            low = left / 10;
            return (int) (left % 10);
        }

        private void takeShortCommon(long a, long b) {
            long greater = a;
            long less = b;
            for (int turn = 0; turn < 100 && less != 0; turn++) {
                long left = greater % less;
                greater = less;
                less = left;
            }
            takeAmount(greater, 0, 0);
        }

        private void swap(Wide other) {
            long lowest = low;
            long mid = middle;
            long highest = high;
            low = other.low;
            middle = other.middle;
            high = other.high;
            other.low = lowest;
            other.middle = mid;
            other.high = highest;
        }

        private void copy(Wide other) {
            low = other.low;
            middle = other.middle;
            high = other.high;
        }

        private int compareWith(Wide other) {
            if (high != other.high) {
                return Long.compare(high, other.high);
            }
            return middle != other.middle ? Long.compare(middle, other.middle) : Long.compare(low, other.low);
        }

        private void subtract(Wide other) {
            long a = low - other.low;
            long b = middle - other.middle + (a >> BITS);
            low = a & MASK;
            middle = b & MASK;
            high = high - other.high + (b >> BITS);
        }

        private void halve() {
            low = low >> 1 | (middle & 1) << BITS - 1;
            middle = middle >> 1 | (high & 1) << BITS - 1;
            high >>= 1;
        }

        private void twice(int bit) {
            high = high << 1 | middle >> BITS - 1;
            middle = middle << 1 & MASK | low >> BITS - 1;
            low = low << 1 & MASK | bit;
        }
    }

    /** A matroid: which sets are bases, with their signs, and what is worked out of that when it is asked for. */
    private static final class Matroid {
        private static final int SIDE = MOST_ELEMENTS + 1;
        private static final int ODD_ELEMENTS = 0xAAA;

        private final Orders orders;
        private final Part[] parts;
        private final int[] columns;
        private final int[] weights;
        private final int[][] lists;
        private final int[] listed;
        private byte[] signs;
        private byte[] ranks;
        private long[] polynomial;
        private boolean ranked;
        private boolean expanded;
        private int stamp;
        private int field;
        private int size;
        private int rank;

        Matroid(Orders orders) {
            this.orders = orders;
            parts = new Part[MOST_ELEMENTS];
            columns = new int[MOST_ELEMENTS];
            weights = new int[MOST_ELEMENTS];
            lists = new int[KINDS][16];
            listed = new int[KINDS];
            signs = new byte[16];
            ranks = new byte[16];
            polynomial = new long[0];
        }

        void span(Minors minors, Source source) {
            begin(source.field, source.size, source.height);
            Part part = new Part(source, 0, false);
            for (int e = 0; e < size; e++) {
                parts[e] = part;
                columns[e] = e;
            }
            for (int set = 0; set <= all(); set++) {
                signs[set] = Integer.bitCount(set) == rank ? (byte) minors.signOf(set) : 0;
            }
            turnFirstUp();
        }

        void turn(Matroid from) {
            begin(from.field, from.size, from.size - from.rank);
            takeParts(from, 0, 0, 0, true);
            for (int set = 0; set <= all(); set++) {
                int sign = from.signs[all() ^ set];
                boolean odd = (Integer.bitCount(set & ODD_ELEMENTS) & 1) != 0;
                signs[set] = (byte) (odd ? -sign : sign);
            }
            turnFirstUp();
        }

        /** Without the elements of a set; those of them that are used are contracted, the others deleted. */
        void remove(Matroid from, int gone, int used) {
            int kept = from.all() & ~gone;
            begin(from.field, Integer.bitCount(kept), from.rank - Integer.bitCount(used));
            takeParts(from, 0, gone, used, false);
            int old = 0;
            for (int set = 0; set <= all(); set++) {
                int sign = from.signs[old | used];
                signs[set] = (byte) (interleavesOdd(old, used) ? -sign : sign);
                old = old - kept & kept;
            }
            turnFirstUp();
        }

        void join(Matroid first, Matroid second) {
            begin(first.field, first.size + second.size, first.rank + second.rank);
            takeParts(first, 0, 0, 0, false);
            takeParts(second, first.size, 0, 0, false);
            for (int set = 0; set <= all(); set++) {
                signs[set] = (byte) (first.signs[set & first.all()] * second.signs[set >> first.size]);
            }
        }

        void repeat(Matroid from) {
            begin(from.field, from.size, from.rank);
            takeParts(from, 0, 0, 0, false);
            System.arraycopy(from.weights, 0, weights, 0, size);
            System.arraycopy(from.signs, 0, signs, 0, 1 << size);
        }

        int all() {
            return (1 << size) - 1;
        }

        boolean holds(int set) {
            return set >= 0 && set <= all();
        }

        int rankOf(int set) {
            if (!ranked) {
                workOutRanks();
            }
            return ranks[set];
        }

        int howMany(int kind) {
            if (listed[kind] == NONE) {
                rankOf(0);
                workOutList(kind);
            }
            return listed[kind];
        }

        long coefficient(int i, int j) {
            if (i < 0 || i > rank || j < 0 || j > size - rank) {
                return 0;
            }
            if (!expanded) {
                workOutPolynomial();
            }
            return polynomial[i * SIDE + j];
        }

        /** Of a set those elements, taken as they rise, that make the rank greater of what is there already. */
        int raisers(int there, int set) {
            int grown = there;
            for (int e = 0; e < size; e++) {
                int one = set & 1 << e;
                if (rankOf(grown | one) > rankOf(grown)) {
                    grown |= one;
                }
            }
            return grown & set;
        }

        int firstBasis() {
            return raisers(0, all());
        }

        int bestBasis() {
            int basis = 0;
            int seen = 0;
            for (int turn = 0; turn < size; turn++) {
                int heaviest = NONE;
                for (int e = 0; e < size; e++) {
                    boolean fresh = (seen >> e & 1) == 0;
                    if (fresh && (heaviest == NONE || weights[e] > weights[heaviest])) {
                        heaviest = e;
                    }
                }
                int one = heaviest == NONE ? 0 : 1 << heaviest;
                seen |= one;
                basis |= raisers(basis, one);
            }
            return basis;
        }

        int commonSet(Matroid other) {
            for (int many = Math.min(rank, other.rank); many > 0; many--) {
                int end = orders.start(size, many + 1);
                for (int i = orders.start(size, many); i < end; i++) {
                    int set = orders.set(size, i);
                    if (rankOf(set) == many && other.rankOf(set) == many) {
                        return set;
                    }
                }
            }
            return 0;
        }

        // Where two sets are covers their intersection is one, too, so the least is what all have together.
        int coverSet(Matroid other) {
            int many = Integer.bitCount(commonSet(other));
            int cover = all();
            for (int set = 0; set <= all(); set++) {
                if (rankOf(set) + other.rankOf(all() ^ set) == many) {
                    cover &= set;
                }
            }
            return cover;
        }

        /**
         * The elements of a circuit with the sign -1. With a basis that has all of the circuit but its least
         * element, Cramer's rule tells how the least comes of the others: what it takes of one stands against it.
         */
        int negatives(int circuit) {
            int least = circuit & -circuit;
            int others = circuit ^ least;
            int basis = others | raisers(others, all() & ~others);
            int negative = 0;
            for (int e = 0; e < size; e++) {
                int one = others & 1 << e;
                if (one != 0) {
                    int both = signs[basis] * signs[basis ^ one ^ least];
                    boolean above = crossesOdd(basis, one | least) ? both < 0 : both > 0;
                    negative |= above ? one : 0;
                }
            }
            return negative;
        }

        /** The columns of a part's source that make its determinant for a basis. */
        int chosenColumns(Part part, int basis) {
            int chosen = part.held;
            for (int e = 0; e < size; e++) {
                boolean inBasis = (basis >> e & 1) != 0;
                if (parts[e] == part && inBasis != part.turned) {
                    chosen |= 1 << columns[e];
                }
            }
            return chosen;
        }

        private void begin(int ofField, int ofSize, int ofRank) {
            field = ofField;
            size = ofSize;
            rank = ofRank;
            ranked = false;
            expanded = false;
            orders.reach(size);
            if (signs.length < 1 << size) {
                signs = new byte[1 << size];
            }
            Arrays.fill(weights, 0);
            Arrays.fill(listed, NONE);
        }

        // The parts are made anew, for in a sum with itself a matroid's part would be one summand and not two.
        private void takeParts(Matroid from, int at, int gone, int used, boolean flip) {
            Part old = null;
            Part fresh = null;
            int to = at;
            for (int e = 0; e < from.size; e++) {
                if ((gone >> e & 1) == 0) {
                    if (from.parts[e] != null && from.parts[e] != old) {
                        old = from.parts[e];
                        fresh = new Part(old.source, old.held | from.heldOf(old, gone, used), old.turned != flip);
                    }
                    parts[to] = fresh;
                    columns[to] = from.columns[e];
                    to++;
                }
            }
        }

        // Contracting in a dual is deleting in the source, and the other way round.
        private int heldOf(Part part, int gone, int used) {
            int held = 0;
            for (int e = 0; e < size; e++) {
                boolean isUsed = (used >> e & 1) != 0;
                if (parts[e] == part && (gone >> e & 1) != 0 && isUsed != part.turned) {
                    held |= 1 << columns[e];
                }
            }
            return held;
        }

        private boolean interleavesOdd(int set, int used) {
            int pairs = 0;
            for (int e = 0; e < MOST_ELEMENTS; e++) {
                if ((used >> e & 1) != 0) {
                    pairs += Integer.bitCount(set >> e);
                }
            }
            return (pairs & 1) != 0;
        }

        private void turnFirstUp() {
            int end = orders.start(size, rank + 1);
            int first = 0;
            for (int i = orders.start(size, rank); i < end && first == 0; i++) {
                first = signs[orders.set(size, i)];
            }
            for (int set = 0; set <= all(); set++) {
                signs[set] = (byte) (field == 0 ? first * signs[set] : Math.abs(signs[set]));
            }
        }

        private void workOutRanks() {
            int sets = 1 << size;
            if (ranks.length < sets) {
                ranks = new byte[sets];
            }
            for (int set = 0; set < sets; set++) {
                ranks[set] = (byte) (signs[set] == 0 ? 0 : 1);
            }
            for (int e = 0; e < size; e++) {
                for (int set = 0; set < sets; set++) {
                    ranks[set] |= ranks[set | 1 << e];
                }
            }
            for (int set = 0; set < sets; set++) {
                ranks[set] = (byte) (ranks[set] * Integer.bitCount(set));
            }
            for (int e = 0; e < size; e++) {
                for (int set = 0; set < sets; set++) {
                    ranks[set] = (byte) Math.max(ranks[set], ranks[set & ~(1 << e)]);
                }
            }
            ranked = true;
        }

        private void workOutList(int kind) {
            int sets = 1 << size;
            int many = 0;
            for (int i = 0; i < sets; i++) {
                int set = orders.set(size, i);
                if (belongs(kind, set)) {
                    if (many == lists[kind].length) {
                        lists[kind] = Arrays.copyOf(lists[kind], 4 * many);
                    }
                    lists[kind][many] = set;
                    many++;
                }
            }
            listed[kind] = many;
        }

        // The cocircuits are what the flats of rank R - 1 leave over.
        private boolean belongs(int kind, int set) {
            int others = all() ^ set;
            switch (kind) {
                case BASES:
                    return signs[set] != 0;
                case CIRCUITS:
                    return isCircuit(set);
                case COCIRCUITS:
                    return ranks[others] == rank - 1 && isFlat(others);
                default:
                    return isFlat(set);
            }
        }

        private boolean isCircuit(int set) {
            int due = Integer.bitCount(set) - 1;
            boolean circuit = ranks[set] == due;
            for (int e = 0; e < size && circuit; e++) {
                circuit = (set >> e & 1) == 0 || ranks[set ^ 1 << e] == due;
            }
            return circuit;
        }

        private boolean isFlat(int set) {
            boolean flat = true;
            for (int e = 0; e < size && flat; e++) {
                flat = (set >> e & 1) != 0 || ranks[set | 1 << e] > ranks[set];
            }
            return flat;
        }

        private void workOutPolynomial() {
            if (polynomial.length == 0) {
                polynomial = new long[SIDE * SIDE];
            }
            Arrays.fill(polynomial, 0);
            for (int set = 0; set <= all(); set++) {
                int own = rankOf(set);
                polynomial[(rank - own) * SIDE + Integer.bitCount(set) - own]++;
            }
            for (int j = 0; j <= size - rank; j++) {
                lowerVariable(j, SIDE, rank);
            }
            for (int i = 0; i <= rank; i++) {
                lowerVariable(i * SIDE, 1, size - rank);
            }
            expanded = true;
        }

        // Puts x - 1 for x into a polynomial whose coefficients stand so many places apart.
        private void lowerVariable(int at, int apart, int degree) {
            for (int done = 0; done < degree; done++) {
                for (int power = degree - 1; power >= done; power--) {
                    polynomial[at + power * apart] -= polynomial[at + (power + 1) * apart];
                }
            }
        }
    }

    /** Finds whether a matroid (the guest) is a minor of another (the host), and the witness that comes first. */
    private static final class Witness {
        private final Orders orders;
        private final int[] images;
        private final int[] guestPairs;
        private final int[] hostPairs;
        private int[] keptSets;
        private int[] restSets;
        private int[] imageSets;
        private Matroid host;
        private Matroid guest;
        private int hostStamp;
        private int guestStamp;
        private int guestBases;
        private boolean found;
        private int keptSet;
        private int lost;
        private int contractedSet;
        private int deletedSet;
        private int taken;

        Witness(Orders orders) {
            this.orders = orders;
            images = new int[MOST_ELEMENTS];
            guestPairs = new int[MOST_ELEMENTS * MOST_ELEMENTS];
            hostPairs = new int[MOST_ELEMENTS * MOST_ELEMENTS];
            keptSets = new int[16];
            restSets = new int[16];
            imageSets = new int[16];
            host = null;
            guest = null;
            hostStamp = NONE;
            guestStamp = NONE;
        }

        boolean finds(Matroid inHost, Matroid ofGuest) {
            if (inHost.stamp == hostStamp && ofGuest.stamp == guestStamp) {
                return found;
            }
            host = inHost;
            guest = ofGuest;
            hostStamp = host.stamp;
            guestStamp = guest.stamp;
            found = false;
            // Neither the rank nor that of the dual gets greater in a minor.
            if (guest.rank > host.rank || guest.size - guest.rank > host.size - host.rank) {
                return false;
            }
            makeRoom();
            countGuestBases();
            int end = orders.start(host.size, guest.size + 1);
            for (int i = orders.start(host.size, guest.size); i < end && !found; i++) {
                found = findsOn(orders.set(host.size, i));
            }
            if (found) {
                numberImages();
            }
            return found;
        }

        int imageOf(int e) {
            return images[e];
        }

        // Until here images are told by their places in what is kept.
        private void numberImages() {
            for (int e = 0; e < guest.size; e++) {
                images[e] = Integer.bitCount(keptSets[1 << images[e]] - 1);
            }
        }

        private void makeRoom() {
            host.rankOf(0);
            guest.rankOf(0);
            int sets = 1 << host.size;
            if (keptSets.length < sets) {
                keptSets = new int[sets];
                restSets = new int[sets];
                imageSets = new int[sets];
            }
        }

        private void countGuestBases() {
            Arrays.fill(guestPairs, 0);
            guestBases = 0;
            for (int set = 0; set <= guest.all(); set++) {
                if (guest.signs[set] != 0) {
                    guestBases++;
                    countPairs(guestPairs, set);
                }
            }
        }

        // How often two elements are in a basis together; an element with itself: in how many it is.
        private void countPairs(int[] pairs, int basis) {
            for (int e = 0; e < guest.size; e++) {
                for (int f = 0; f < guest.size && (basis >> e & 1) != 0; f++) {
                    pairs[e * MOST_ELEMENTS + f] += basis >> f & 1;
                }
            }
        }

        // Only an independent set is worth contracting: of another one that is less makes the same.
        private boolean findsOn(int kept) {
            int others = host.size - guest.size;
            keptSet = kept;
            spread(keptSets, kept);
            spread(restSets, host.all() & ~kept);
            int least = Math.max(0, host.ranks[kept] - guest.rank);
            int most = Math.min(others, host.rank - guest.rank);
            int end = orders.start(others, most + 1);
            for (int i = orders.start(others, least); i < end; i++) {
                contractedSet = restSets[orders.set(others, i)];
                lost = Integer.bitCount(contractedSet);
                boolean independent = host.ranks[contractedSet] == lost;
                boolean ranksFit = independent && host.ranks[kept | contractedSet] == guest.rank + lost;
                if (ranksFit && sameBases() && sameDegrees() && assigns(0)) {
                    deletedSet = host.all() & ~kept & ~contractedSet;
                    return true;
                }
            }
            return false;
        }

        // The sets of a row of elements, by the numbers that they have when these are counted from 0 on.
        private void spread(int[] sets, int row) {
            int many = 0;
            sets[0] = 0;
            for (int e = 0; e < host.size; e++) {
                if ((row >> e & 1) != 0) {
                    for (int i = 0; i < 1 << many; i++) {
                        sets[i | 1 << many] = sets[i] | 1 << e;
                    }
                    many++;
                }
            }
        }

        private boolean sameBases() {
            int end = orders.start(guest.size, guest.rank + 1);
            int bases = 0;
            for (int i = orders.start(guest.size, guest.rank); i < end && bases <= guestBases; i++) {
                bases += isHostBasis(orders.set(guest.size, i)) ? 1 : 0;
            }
            return bases == guestBases;
        }

        private boolean isHostBasis(int set) {
            return host.ranks[keptSets[set] | contractedSet] == guest.rank + lost;
        }

        // In as many bases each; counts the pairs, and makes ready for images.
        private boolean sameDegrees() {
            taken = 0;
            imageSets[0] = contractedSet;
            Arrays.fill(hostPairs, 0);
            int end = orders.start(guest.size, guest.rank + 1);
            for (int i = orders.start(guest.size, guest.rank); i < end; i++) {
                int set = orders.set(guest.size, i);
                if (isHostBasis(set)) {
                    countPairs(hostPairs, set);
                }
            }
            int step = MOST_ELEMENTS + 1;
            int more = 0;
            for (int e = 0; e < guest.size && more == 0; e++) {
                for (int f = 0; f < guest.size; f++) {
                    more += guestPairs[f * step] == guestPairs[e * step] ? 1 : 0;
                    more -= hostPairs[f * step] == guestPairs[e * step] ? 1 : 0;
                }
            }
            return more == 0;
        }

        // Images are tried as they rise, so that the first that are found come first. Deeper by one element each time.
        private boolean assigns(int e) {
            if (e >= guest.size) {
                return true;
            }
            for (int f = 0; f < guest.size; f++) {
                if ((taken >> f & 1) == 0 && samePairs(e, f) && sameRanks(e, f)) {
                    images[e] = f;
                    taken |= 1 << f;
                    if (assigns(e + 1)) {
                        return true;
                    }
                    taken ^= 1 << f;
                }
            }
            return false;
        }

        private boolean samePairs(int e, int f) {
            int own = e * MOST_ELEMENTS;
            int other = f * MOST_ELEMENTS;
            boolean same = guestPairs[own + e] == hostPairs[other + f];
            for (int before = 0; before < e && same; before++) {
                same = guestPairs[own + before] == hostPairs[other + images[before]];
            }
            return same;
        }

        // Sets with the new element, and what they leave over: where the rank is great only the latter tell early.
        private boolean sameRanks(int e, int f) {
            int one = keptSets[1 << f];
            boolean same = true;
            for (int set = 0; set < 1 << e && same; set++) {
                int with = set | 1 << e;
                int image = imageSets[set] | one;
                imageSets[with] = image;
                same = guest.ranks[with] + lost == host.ranks[image]
                        && guest.ranks[guest.all() ^ with] + lost == host.ranks[keptSet ^ image];
            }
            return same;
        }
    }

    /** What statements print. */
    private static final class Product {
        private static final int MOST_DIGITS = 48;

        private byte[] bytes;
        private final byte[] digits;
        private int length;
        private boolean full;

        Product() {
            bytes = new byte[256];
            digits = new byte[MOST_DIGITS];
        }

        void cutTo(int shorter) {
            length = shorter;
            full = false;
        }

        void put(int c) {
            if (length >= MOST_PRINTED) {
                full = true;
                return;
            }
            if (length == bytes.length) {
                bytes = Arrays.copyOf(bytes, 2 * length);
            }
            bytes[length] = (byte) c;
            length++;
        }

        void text(String written) {
            for (int i = 0; i < written.length(); i++) {
                put(written.charAt(i));
            }
        }

        /** Writes a number from 0 up. */
        void number(long value) {
            long left = value;
            int many = 0;
            for (int i = 0; i < MOST_DIGITS && (i == 0 || left != 0); i++) {
                digits[i] = (byte) ('0' + left % 10);
                left /= 10;
                many++;
            }
            for (int i = many - 1; i >= 0; i--) {
                put(digits[i]);
            }
        }

        /** Writes a number, which is used up. */
        void wide(Wide value) {
            int many = 0;
            for (int i = 0; i < MOST_DIGITS && (i == 0 || !value.isZero()); i++) {
                digits[i] = (byte) ('0' + value.tenth());
                many++;
            }
            for (int i = many - 1; i >= 0; i--) {
                put(digits[i]);
            }
        }

        void mark(int sign) {
            put(sign == 0 ? '0' : sign < 0 ? '-' : '+');
        }

        void setLine(int set) {
            put('{');
            boolean first = true;
            for (int e = 0; e < MOST_ELEMENTS; e++) {
                if ((set >> e & 1) != 0) {
                    text(first ? "" : " ");
                    number(e);
                    first = false;
                }
            }
            text("}\n");
        }

        void term(long coefficient, int ofX, int ofY) {
            boolean bare = ofX == 0 && ofY == 0;
            if (coefficient != 1 || bare) {
                number(coefficient);
                text(bare ? "" : " ");
            }
            power('x', ofX);
            text(ofX > 0 && ofY > 0 ? " " : "");
            power('y', ofY);
        }

        private void power(char variable, int often) {
            if (often > 0) {
                put(variable);
            }
            if (often > 1) {
                put('^');
                number(often);
            }
        }
    }
}
