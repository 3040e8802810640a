/**
 * What a basket of goods brings along of smoke and other stuff, through nets of makings that need
 * one another. ../shared/DOC.md holds the promises; the words in capitals below are its terms.
 */
public final class CradleNets {
    public static final int NONE = -1, UNKNOWN = -101, OUTSIDE = -102, STATE = -103, BOUND = -104, FULL = -105;

    private static final long LONG_UNKNOWN = -9000000000000000001L;
    private static final long LONG_OUTSIDE = -9000000000000000002L;
    private static final long LONG_BOUND = -9000000000000000004L;
    private static final int NO_ENTRY = -1000000;

    private static final int MOST_MAKINGS = 4;
    private static final int MOST_VERSIONS = 6;
    private static final int BASKETS = 4;
    private static final int STUFFS = 3;

    private static final int MOST_OUT = 6;
    private static final int MOST_NEEDED = 6;
    private static final int MOST_BY = 6;
    private static final int MOST_EMITTED = 100;
    private static final int MOST_MEASURE = 5;
    private static final int MOST_HELD = 20;

    private static final int BY_PRICE = 1;
    private static final int AVOIDED = 2;

    private static final int SIDE_LEAST = 0;
    private static final int SIDE_TOLD = 1;
    private static final int SIDE_GREATEST = 2;

    // Where a MAKING's row holds what: the document's own numbers for told().
    private static final int AT_OUT = 0;
    private static final int AT_RULE = 1;
    private static final int AT_MAIN = 2;
    private static final int AT_ALL = 3;
    private static final int AT_NEEDS = 4;
    private static final int AT_BY = 8;
    private static final int AT_EMITS = 12;
    private static final int AT_WEIGHT = 21;
    private static final int AT_PRICE = 22;
    private static final int ROW_LENGTH = 23;

    private final Book now = new Book();
    private final Book mixed = new Book();
    private final Book[] kept = new Book[MOST_VERSIONS];
    private final Net net = new Net();
    private final int[][] held = new int[BASKETS][MOST_MAKINGS];
    private final int[] difference = new int[MOST_MAKINGS];
    private int makings = 0;
    private int versions = 0;

    public CradleNets() {
        for (int v = 0; v < MOST_VERSIONS; v++) {
            kept[v] = new Book();
        }
    }

    // ---- the book

    public int making() {
        if (versions > 0) {
            return STATE;
        }
        if (makings >= MOST_MAKINGS) {
            return FULL;
        }
        makings++;
        return makings - 1;
    }

    public int out(int i, int v) {
        if (!isMaking(i)) {
            return UNKNOWN;
        }
        if (!isWithin(v, 1, MOST_OUT)) {
            return OUTSIDE;
        }
        return now.change(i, AT_OUT, v);
    }

    public int needs(int i, int j, int v) {
        if (!isMaking(i) || !isMaking(j)) {
            return UNKNOWN;
        }
        if (!isWithin(v, 0, MOST_NEEDED)) {
            return OUTSIDE;
        }
        return now.change(i, AT_NEEDS + j, v);
    }

    public int by(int i, int j, int v) {
        if (!isMaking(i) || !isMaking(j)) {
            return UNKNOWN;
        }
        if (!isWithin(v, 0, MOST_BY) || i == j) {
            return OUTSIDE;
        }
        return now.change(i, AT_BY + j, v);
    }

    public int emits(int i, int k, int least, int told, int greatest) {
        if (!isMaking(i) || !isStuff(k)) {
            return UNKNOWN;
        }
        if (!isWithin(least, 0, MOST_EMITTED) || !isWithin(greatest, 0, MOST_EMITTED)) {
            return OUTSIDE;
        }
        if (!isWithin(told, least, greatest)) {
            return OUTSIDE;
        }
        now.change(i, placeOfEmits(k, SIDE_LEAST), least);
        now.change(i, placeOfEmits(k, SIDE_TOLD), told);
        now.change(i, placeOfEmits(k, SIDE_GREATEST), greatest);
        return 1;
    }

    public int good(int j, int weight, int price) {
        if (!isMaking(j)) {
            return UNKNOWN;
        }
        if (!isWithin(weight, 1, MOST_MEASURE) || !isWithin(price, 1, MOST_MEASURE)) {
            return OUTSIDE;
        }
        now.change(j, AT_WEIGHT, weight);
        now.change(j, AT_PRICE, price);
        return 1;
    }

    public int rule(int i, int r) {
        if (!isMaking(i)) {
            return UNKNOWN;
        }
        if (!isWithin(r, 0, AVOIDED)) {
            return OUTSIDE;
        }
        return now.change(i, AT_RULE, r);
    }

    public int told(int i, int what) {
        if (!isMaking(i)) {
            return UNKNOWN;
        }
        if (!isWithin(what, 0, ROW_LENGTH - 1)) {
            return OUTSIDE;
        }
        return now.rows[i][what];
    }

    public int entry(int j, int i) {
        if (!isMaking(j) || !isMaking(i)) {
            return NO_ENTRY;
        }
        return now.tableCell(j, i);
    }

    public long worth() {
        net.layTable(now, makings);
        return net.determinant;
    }

    // ---- baskets

    public int put(int b, int j, int v) {
        if (!isBasket(b) || !isMaking(j)) {
            return UNKNOWN;
        }
        if (!isWithin(v, 0, MOST_HELD)) {
            return OUTSIDE;
        }
        int was = held[b][j];
        held[b][j] = v;
        return was;
    }

    public long runs(int b, int i) {
        if (!isBasket(b) || !isMaking(i)) {
            return LONG_UNKNOWN;
        }
        if (!net.solve(now, makings, held[b])) {
            return LONG_BOUND;
        }
        return thousandths(net.rounds[i] * now.rows[i][AT_ALL], net.below);
    }

    public long total(int b, int k, int side, int part) {
        if (!isBasket(b) || !isStuff(k)) {
            return LONG_UNKNOWN;
        }
        if (!isWithin(side, SIDE_LEAST, SIDE_GREATEST) || !isWithin(part, 0, 1)) {
            return LONG_OUTSIDE;
        }
        if (!net.solve(now, makings, held[b])) {
            return LONG_BOUND;
        }
        long above = net.sumOfEmissions(now, k, side);
        return inLowestTerms(part == 0 ? above : net.below, above, net.below);
    }

    public long share(int b, int k, int i) {
        if (!isBasket(b) || !isStuff(k) || !isMaking(i)) {
            return LONG_UNKNOWN;
        }
        if (!net.solve(now, makings, held[b])) {
            return LONG_BOUND;
        }
        return thousandths(net.brought(now, k, i, SIDE_TOLD), net.below);
    }

    public long way(int b, int k, int a, int b2, int c) {
        if (!isBasket(b) || !isStuff(k) || !isMaking(a)) {
            return LONG_UNKNOWN;
        }
        if (!isMakingOrNone(b2) || !isMakingOrNone(c)) {
            return LONG_UNKNOWN;
        }
        if ((b2 == NONE && c != NONE) || a == b2 || (c != NONE && b2 == c)) {
            return LONG_OUTSIDE;
        }
        long below = now.tableCell(a, a) * stepBelow(b2) * stepBelow(c);
        if (below == 0) {
            return LONG_BOUND;
        }
        int last = c != NONE ? c : b2 != NONE ? b2 : a;
        long above = held[b][a] * stepAbove(a, b2) * stepAbove(b2, c);
        return thousandths(above * now.emission(last, k, SIDE_TOLD), below);
    }

    public int sure(int a, int b, int k) {
        if (!isBasket(a) || !isBasket(b) || !isStuff(k)) {
            return UNKNOWN;
        }
        // ROUNDS are linear in what is held, so the doubts that both share are those of one basket: a less b.
        for (int j = 0; j < MOST_MAKINGS; j++) {
            difference[j] = held[a][j] - held[b][j];
        }
        if (!net.solve(now, makings, difference)) {
            return BOUND;
        }
        return net.sumOfEmissions(now, k, SIDE_GREATEST) <= 0 ? 1 : 0;
    }

    public int most(int b, int k) {
        if (!isBasket(b) || !isStuff(k)) {
            return UNKNOWN;
        }
        if (!net.solve(now, makings, held[b])) {
            return BOUND;
        }
        int best = NONE;
        long bestBrought = 0;
        for (int i = 0; i < makings; i++) {
            long brought = net.brought(now, k, i, SIDE_TOLD);
            if (best == NONE || brought > bestBrought) {
                best = i;
                bestBrought = brought;
            }
        }
        return best;
    }

    public int turned(int b) {
        if (!isBasket(b)) {
            return UNKNOWN;
        }
        if (!net.solve(now, makings, held[b])) {
            return BOUND;
        }
        for (int i = 0; i < makings; i++) {
            if (net.rounds[i] < 0) {
                return i;
            }
        }
        return NONE;
    }

    // ---- versions

    public int keep() {
        if (versions >= MOST_VERSIONS) {
            return FULL;
        }
        kept[versions].copyRows(now, 0, MOST_MAKINGS);
        versions++;
        return versions - 1;
    }

    public int recall(int v) {
        if (!isVersion(v)) {
            return UNKNOWN;
        }
        now.copyRows(kept[v], 0, MOST_MAKINGS);
        return 1;
    }

    public long blame(int v, int b, int k, int i) {
        if (!isVersion(v) || !isBasket(b) || !isStuff(k) || !isMaking(i)) {
            return LONG_UNKNOWN;
        }
        long after = mixedTotal(v, i + 1, b, k);
        long before = mixedTotal(v, i, b, k);
        if (after == LONG_BOUND || before == LONG_BOUND) {
            return LONG_BOUND;
        }
        return after - before;
    }

    // ---- what is told

    public int count(int what) {
        switch (what) {
            case 0:
                return makings;
            case 1:
                return versions;
            case 2:
                return makingsWithByProducts();
            case 3:
                return entriesNotZero();
            default:
                return OUTSIDE;
        }
    }

    public long digest() {
        long h = 151;
        for (int i = 0; i < makings; i++) {
            for (int what = 0; what < ROW_LENGTH; what++) {
                h = 31 * h + now.rows[i][what];
            }
        }
        for (int b = 0; b < BASKETS; b++) {
            for (int j = 0; j < makings; j++) {
                h = 31 * h + held[b][j];
            }
        }
        h = 31 * h + versions;
        return 31 * h + worth();
    }

    // ---- helpers

    private static boolean isWithin(int number, int least, int greatest) {
        return number >= least && number <= greatest;
    }

    // GOODS have the numbers of the MAKINGS, so this is the test for both.
    private boolean isMaking(int i) {
        return i >= 0 && i < makings;
    }

    private boolean isMakingOrNone(int i) {
        return i == NONE || isMaking(i);
    }

    private boolean isVersion(int v) {
        return v >= 0 && v < versions;
    }

    private static boolean isBasket(int b) {
        return b >= 0 && b < BASKETS;
    }

    private static boolean isStuff(int k) {
        return k >= 0 && k < STUFFS;
    }

    private static int placeOfEmits(int k, int side) {
        return AT_EMITS + STUFFS * side + k;
    }

    private static long thousandths(long above, long below) {
        if (below == 0) {
            return LONG_BOUND;
        }
        return Math.floorDiv(1000 * above, below);
    }

    private static long inLowestTerms(long part, long above, long below) {
        long divisor = greatestCommonDivisor(Math.abs(above), Math.abs(below));
        return divisor == 0 ? part : part / divisor;
    }

    private static long greatestCommonDivisor(long a, long b) {
        long larger = a;
        long smaller = b;
        // Two longs need fewer than 100 steps.
        for (int step = 0; step < 1000 && smaller != 0; step++) {
            long rest = larger % smaller;
            larger = smaller;
            smaller = rest;
        }
        return larger;
    }

    // A WAY's step to NONE changes nothing: it counts as 1 by 1.
    private long stepAbove(int from, int to) {
        return from == NONE || to == NONE ? 1 : -now.tableCell(to, from);
    }

    private long stepBelow(int to) {
        return to == NONE ? 1 : now.tableCell(to, to);
    }

    private long mixedTotal(int v, int changed, int b, int k) {
        mixed.copyRows(now, 0, changed);
        mixed.copyRows(kept[v], changed, MOST_MAKINGS);
        if (!net.solve(mixed, makings, held[b])) {
            return LONG_BOUND;
        }
        return thousandths(net.sumOfEmissions(mixed, k, SIDE_TOLD), net.below);
    }

    private int makingsWithByProducts() {
        int found = 0;
        for (int i = 0; i < makings; i++) {
            if (now.hasByProducts(i)) {
                found++;
            }
        }
        return found;
    }

    private int entriesNotZero() {
        int found = 0;
        for (int j = 0; j < makings; j++) {
            for (int i = 0; i < makings; i++) {
                if (now.tableCell(j, i) != 0) {
                    found++;
                }
            }
        }
        return found;
    }

    /** All that is told of MAKINGS and GOODS: one row for each number, MAIN and ALL among it. */
    private static final class Book {
        final int[][] rows = new int[MOST_MAKINGS][ROW_LENGTH];

        Book() {
            for (int i = 0; i < MOST_MAKINGS; i++) {
                rows[i][AT_OUT] = 1;
                rows[i][AT_MAIN] = 1;
                rows[i][AT_ALL] = 1;
                rows[i][AT_WEIGHT] = 1;
                rows[i][AT_PRICE] = 1;
            }
        }

        int change(int i, int what, int v) {
            int was = rows[i][what];
            rows[i][what] = v;
            for (int each = 0; each < MOST_MAKINGS; each++) {
                weighRow(each);
            }
            return was;
        }

        // MAIN and ALL stay in the row: in a mixed book they must be by the measures of the row's own book.
        private void weighRow(int i) {
            int[] row = rows[i];
            if (row[AT_RULE] == AVOIDED) {
                row[AT_MAIN] = 1;
                row[AT_ALL] = 1;
                return;
            }
            int measure = row[AT_RULE] == BY_PRICE ? AT_PRICE : AT_WEIGHT;
            row[AT_MAIN] = row[AT_OUT] * row[measure];
            int sum = row[AT_MAIN];
            for (int j = 0; j < MOST_MAKINGS; j++) {
                sum += row[AT_BY + j] * rows[j][measure];
            }
            row[AT_ALL] = sum;
        }

        void copyRows(Book from, int first, int end) {
            for (int i = first; i < end && i < MOST_MAKINGS; i++) {
                System.arraycopy(from.rows[i], 0, rows[i], 0, ROW_LENGTH);
            }
        }

        int tableCell(int j, int i) {
            int[] row = rows[i];
            int made = i == j ? row[AT_OUT] : 0;
            int needed = row[AT_NEEDS + j];
            if (row[AT_RULE] == AVOIDED) {
                return made + row[AT_BY + j] - needed;
            }
            return made * row[AT_ALL] - needed * row[AT_MAIN];
        }

        long emission(int i, int k, int side) {
            return rows[i][placeOfEmits(k, side)] * rows[i][AT_MAIN];
        }

        boolean hasByProducts(int i) {
            for (int j = 0; j < MOST_MAKINGS; j++) {
                if (rows[i][AT_BY + j] > 0) {
                    return true;
                }
            }
            return false;
        }
    }

    /**
     * THE TABLE of a book and the ROUNDS of a basket, exactly: whole numbers over one divisor.
     * By the document's limits no number here is above 2 * 10^18, 1000 times a sum of emissions.
     */
    private static final class Net {
        final long[] rounds = new long[MOST_MAKINGS];
        long below = 1;
        long determinant = 1;
        private final long[][] table = new long[MOST_MAKINGS][MOST_MAKINGS];
        private final long[] column = new long[MOST_MAKINGS];
        private final long[] minors = new long[1 << MOST_MAKINGS];
        private int size = 0;

        void layTable(Book book, int makings) {
            size = Math.min(makings, MOST_MAKINGS);
            for (int j = 0; j < size; j++) {
                for (int i = 0; i < size; i++) {
                    table[j][i] = book.tableCell(j, i);
                }
            }
            determinant = determinantOfTable();
        }

        /** Whether there are ROUNDS; then they are rounds[i] by below, and below is above 0. */
        boolean solve(Book book, int makings, int[] holds) {
            layTable(book, makings);
            if (determinant == 0) {
                return false;
            }
            below = Math.abs(determinant);
            for (int i = 0; i < size; i++) {
                long above = determinantWithColumn(i, holds);
                rounds[i] = determinant < 0 ? -above : above;
            }
            return true;
        }

        long brought(Book book, int k, int i, int side) {
            return book.emission(i, k, side) * rounds[i];
        }

        /** THE TOTAL, over below: a MAKING that runs backwards takes the other side of its emissions. */
        long sumOfEmissions(Book book, int k, int side) {
            long sum = 0;
            for (int i = 0; i < size; i++) {
                int taken = rounds[i] < 0 ? SIDE_GREATEST - side : side;
                sum += brought(book, k, i, taken);
            }
            return sum;
        }

        private long determinantWithColumn(int i, int[] holds) {
            for (int j = 0; j < size; j++) {
                column[j] = table[j][i];
                table[j][i] = j < holds.length ? holds[j] : 0;
            }
            long result = determinantOfTable();
            for (int j = 0; j < size; j++) {
                table[j][i] = column[j];
            }
            return result;
        }

        // minors[set]: the determinant of the first rows with the columns of the set, as many as it has;
        // no division, so nothing is ever rounded.
        private long determinantOfTable() {
            minors[0] = 1;
            for (int set = 1; set < (1 << size); set++) {
                minors[set] = minorOf(set);
            }
            return minors[(1 << size) - 1];
        }

        private long minorOf(int set) {
            int row = Integer.bitCount(set) - 1;
            long sum = 0;
            for (int i = 0; i < size; i++) {
                if (((set >> i) & 1) == 1) {
                    long product = table[row][i] * minors[set - (1 << i)];
                    boolean even = (Integer.bitCount(set >> (i + 1)) & 1) == 0;
                    sum += even ? product : -product;
                }
            }
            return sum;
        }
    }
}
