/**
 * Groups of symmetry operations: closed, counted, classed, halved, crossed with one another; orbits
 * of places under them.
 *
 * <p>Inside, an OPERATION is one number, its key: NINE times 13,824 plus its SHIFT's number. Lower
 * keys come first in the document's ORDER, so that a sorted row of keys is a GROUP as numbered.
 */
public final class GroupHalls {
    public static final int NONE = -1;

    private static final int MOST_GROUPS = 40;
    private static final int MOST_CHOSEN = 10;
    private static final int MOST_OPERATIONS = 192;

    private static final int EDGE = 24;
    private static final int PLACES = EDGE * EDGE * EDGE;
    private static final int NINES = 19683;

    /** The OPERATION that leaves all PLACES: its digits are 2 1 1, 1 2 1, 1 1 2; it has no SHIFT. */
    private static final int UNIT_NINE = 16484;
    private static final int UNIT = UNIT_NINE * PLACES;

    private static final int A_SHIFT = (0 * EDGE + 12) * EDGE + 12;
    private static final int B_SHIFT = (12 * EDGE + 0) * EDGE + 12;
    private static final int C_SHIFT = (12 * EDGE + 12) * EDGE + 0;
    private static final int I_SHIFT = (12 * EDGE + 12) * EDGE + 12;
    private static final int OBVERSE_LOW = (8 * EDGE + 16) * EDGE + 16;
    private static final int OBVERSE_HIGH = (16 * EDGE + 8) * EDGE + 8;
    private static final int REVERSE_LOW = (8 * EDGE + 16) * EDGE + 8;
    private static final int REVERSE_HIGH = (16 * EDGE + 8) * EDGE + 16;

    /** The SORTS of determinant 1, by the traces -1 .. 3. */
    private static final int[] SORTS = {2, 3, 4, 6, 1};

    /**
     * The rows of the CLASSES 1 .. 32, each read as one number: no GROUP has more than nine MATRICES
     * of a SORT, so that each count is a decimal digit (of the SORTS 2, 3, 4, 6, -1, -2, -3, -4, -6).
     */
    private static final int[] CLASS_ROWS = {
        0, 10000, 100000000, 1000, 100011000, 300000000, 100002000, 300013000,
        102000000, 100000020, 102011020, 502000000, 102004000, 300002020, 502015020,
        20000000, 20010200, 320000000, 20003000, 320013200,
        120200000, 20001002, 120211202, 720200000, 120206000, 320004002, 720217202,
        380000000, 380013800, 986000000, 380006060, 986019860
    };

    private final Group[] halls = new Group[MOST_GROUPS];
    private int made = 0;
    private final int[] chosen = new int[MOST_CHOSEN];
    private int chosenCount = 0;
    private final Bench bench = new Bench();
    private final Closure closure = new Closure(bench);
    /** Keys or PLACES gathered within one call; a GROUP that is kept copies them. */
    private final Row gathered = new Row(MOST_OPERATIONS);

    public GroupHalls() {
    }

    public int choose(int nine, int place) {
        if (chosenCount >= MOST_CHOSEN || !isNine(nine) || !isPlace(place)) {
            return NONE;
        }
        int key = nine * PLACES + place;
        int determinant = bench.determinant(key);
        if (determinant != 1 && determinant != -1) {
            return NONE;
        }
        chosen[chosenCount] = key;
        chosenCount++;
        return chosenCount;
    }

    public int group() {
        closure.start();
        boolean closed = true;
        for (int i = 0; closed && i < chosenCount && i < MOST_CHOSEN; i++) {
            closed = closure.take(chosen[i]);
        }
        chosenCount = 0;
        return closed ? numberOf(closure.found()) : NONE;
    }

    public int about(int group, int what) {
        Group hall = hallAt(group);
        if (hall == null) {
            return NONE;
        }
        switch (what) {
            case 0:
                return hall.keys().size();
            case 1:
                return hall.matrices();
            case 2:
                return hall.centrings();
            case 3:
                return hall.letter();
            case 4:
                return hall.pointClass();
            case 5:
                return hall.alikeSets(bench, closure).count();
            case 6:
                return hall.halves(bench, closure).count();
            default:
                return NONE;
        }
    }

    public int of(int group, int k, int what) {
        Group hall = hallAt(group);
        if (hall == null || k < 0 || k >= hall.keys().size()) {
            return NONE;
        }
        int key = hall.keys().at(k);
        switch (what) {
            case 0:
                return key / PLACES;
            case 1:
                return key % PLACES;
            case 2:
                return bench.sort(key);
            case 3:
                return bench.turns(key);
            case 4:
                return hall.alikeSets(bench, closure).sizeOf(k);
            default:
                return NONE;
        }
    }

    public int product(int group, int i, int j) {
        Group hall = hallAt(group);
        if (hall == null) {
            return NONE;
        }
        int p = hall.keys().at(i);
        int q = hall.keys().at(j);
        return p == NONE || q == NONE ? NONE : hall.keys().indexOf(bench.times(p, q));
    }

    public int find(int group, int nine, int place) {
        Group hall = hallAt(group);
        if (hall == null || !isNine(nine) || !isPlace(place)) {
            return NONE;
        }
        return hall.keys().indexOf(nine * PLACES + place);
    }

    public int half(int group, int k) {
        Group hall = hallAt(group);
        if (hall == null) {
            return NONE;
        }
        Halves halves = hall.halves(bench, closure);
        if (k < 0 || k >= halves.count()) {
            return NONE;
        }
        halves.gather(k, hall.keys(), gathered);
        return numberOf(gathered);
    }

    public int both(int group, int other) {
        Group one = hallAt(group);
        Group two = hallAt(other);
        if (one == null || two == null) {
            return NONE;
        }
        gathered.clear();
        for (int i = 0; i < one.keys().size(); i++) {
            int key = one.keys().at(i);
            if (two.keys().has(key)) {
                gathered.add(key);
            }
        }
        return numberOf(gathered);
    }

    public int centre(int group) {
        Group hall = hallAt(group);
        if (hall == null) {
            return NONE;
        }
        AlikeSets sets = hall.alikeSets(bench, closure);
        gathered.clear();
        for (int i = 0; i < hall.keys().size(); i++) {
            if (sets.sizeOf(i) == 1) {
                gathered.add(hall.keys().at(i));
            }
        }
        return numberOf(gathered);
    }

    public boolean within(int group, int other) {
        Group one = hallAt(group);
        Group two = hallAt(other);
        if (one == null || two == null) {
            return false;
        }
        for (int i = 0; i < one.keys().size(); i++) {
            if (!two.keys().has(one.keys().at(i))) {
                return false;
            }
        }
        return true;
    }

    public int orbit(int group, int place, int what) {
        Group hall = hallAt(group);
        if (hall == null || !isPlace(place)) {
            return NONE;
        }
        switch (what) {
            case -1:
                gatherOrbit(hall.keys(), place);
                return gathered.size();
            case -2:
                gatherKeepers(hall.keys(), place);
                return gathered.size();
            case -3:
                gatherKeepers(hall.keys(), place);
                return classOf(gathered, bench);
            default:
                gatherOrbit(hall.keys(), place);
                return gathered.at(what);
        }
    }

    public int keepers(int group, int place) {
        Group hall = hallAt(group);
        if (hall == null || !isPlace(place)) {
            return NONE;
        }
        gatherKeepers(hall.keys(), place);
        return numberOf(gathered);
    }

    private static boolean isNine(int nine) {
        return nine >= 0 && nine < NINES;
    }

    private static boolean isPlace(int place) {
        return place >= 0 && place < PLACES;
    }

    private Group hallAt(int number) {
        return number >= 0 && number < made && number < MOST_GROUPS ? halls[number] : null;
    }

    /** The number of the GROUP with these keys, made if it is new; NONE when there is no room. */
    private int numberOf(Row keys) {
        for (int number = 0; number < made; number++) {
            Group hall = hallAt(number);
            if (hall != null && hall.keys().isLike(keys)) {
                return number;
            }
        }
        if (made >= MOST_GROUPS) {
            return NONE;
        }
        halls[made] = new Group(keys, bench);
        made++;
        return made - 1;
    }

    private void gatherOrbit(Row keys, int place) {
        gathered.clear();
        for (int i = 0; i < keys.size(); i++) {
            gathered.add(bench.moved(keys.at(i), place));
        }
    }

    private void gatherKeepers(Row keys, int place) {
        gathered.clear();
        for (int i = 0; i < keys.size(); i++) {
            int key = keys.at(i);
            if (bench.moved(key, place) == place) {
                gathered.add(key);
            }
        }
    }

    /** The CLASS of the different MATRICES of sorted keys; NONE if no row is theirs. */
    private static int classOf(Row keys, Bench bench) {
        int row = 0;
        int before = NONE;
        for (int i = 0; i < keys.size(); i++) {
            int nine = keys.at(i) / PLACES;
            if (nine != before) {
                row += digitOf(bench.sort(keys.at(i)));
            }
            before = nine;
        }
        for (int i = 0; i < CLASS_ROWS.length; i++) {
            if (CLASS_ROWS[i] == row) {
                return i + 1;
            }
        }
        return NONE;
    }

    /** What one MATRIX of a SORT adds to a number of CLASS_ROWS. */
    private static int digitOf(int sort) {
        switch (sort) {
            case 2:
                return 100000000;
            case 3:
                return 10000000;
            case 4:
                return 1000000;
            case 6:
                return 100000;
            case -1:
                return 10000;
            case -2:
                return 1000;
            case -3:
                return 100;
            case -4:
                return 10;
            case -6:
                return 1;
            default:
                return 0;
        }
    }

    /** Different numbers, none of them below 0, the lowest first. */
    private static final class Row {
        private final int[] numbers;
        private int size = 0;

        Row(int room) {
            numbers = new int[Math.max(room, 0)];
        }

        int size() {
            return size;
        }

        void clear() {
            size = 0;
        }

        int at(int k) {
            return k >= 0 && k < size && k < numbers.length ? numbers[k] : NONE;
        }

        boolean has(int number) {
            return indexOf(number) != NONE;
        }

        int indexOf(int number) {
            int k = firstNotBelow(number);
            return number >= 0 && at(k) == number ? k : NONE;
        }

        /** False when there is no room for it; a number that is there is not put in again. */
        boolean add(int number) {
            int k = firstNotBelow(number);
            if (at(k) == number) {
                return true;
            }
            if (number < 0 || k < 0 || k > size || size >= numbers.length) {
                return false;
            }
            System.arraycopy(numbers, k, numbers, k + 1, size - k);
            numbers[k] = number;
            size++;
            return true;
        }

        boolean isLike(Row other) {
            if (size != other.size) {
                return false;
            }
            for (int k = 0; k < size; k++) {
                if (at(k) != other.at(k)) {
                    return false;
                }
            }
            return true;
        }

        private int firstNotBelow(int number) {
            int low = 0;
            int high = size;
            for (int step = 0; step < 32 && low < high; step++) {
                int middle = (low + high) >>> 1;
                if (middle < numbers.length && numbers[middle] < number) {
                    low = middle + 1;
                } else {
                    high = middle;
                }
            }
            return low;
        }
    }

    /** The arithmetic of OPERATIONS, told by their keys; its rows are used again by each call. */
    private static final class Bench {
        private final int[] left = new int[9];
        private final int[] right = new int[9];

        int determinant(int key) {
            read(key, left);
            return left[0] * (left[4] * left[8] - left[5] * left[7])
                - left[1] * (left[3] * left[8] - left[5] * left[6])
                + left[2] * (left[3] * left[7] - left[4] * left[6]);
        }

        int sort(int key) {
            int determinant = determinant(key);
            if (determinant != 1 && determinant != -1) {
                return 0;
            }
            // A MATRIX of determinant -1 has the opposite SORT of its opposite MATRIX.
            int k = determinant * (left[0] + left[4] + left[8]) + 1;
            return k >= 0 && k < SORTS.length ? determinant * SORTS[k] : 0;
        }

        /** The key of PRODUCT p q; NONE if it is no OPERATION. */
        int times(int p, int q) {
            read(p, left);
            read(q, right);
            int nine = 0;
            for (int row = 0; row < 9; row += 3) {
                for (int column = 0; column < 3; column++) {
                    int number = left[row] * right[column]
                        + left[row + 1] * right[column + 3]
                        + left[row + 2] * right[column + 6];
                    if (number < -1 || number > 1) {
                        return NONE;
                    }
                    nine = nine * 3 + number + 1;
                }
            }
            // The SHIFT of p q is where p takes the SHIFT of q.
            return nine * PLACES + movedByLeft(p % PLACES, q % PLACES);
        }

        /** The PLACE that an OPERATION takes a PLACE to. */
        int moved(int key, int place) {
            read(key, left);
            return movedByLeft(key % PLACES, place);
        }

        /** How often an OPERATION is done until all PLACES are left. */
        int turns(int key) {
            int power = key;
            for (int n = 1; power != NONE && n <= MOST_OPERATIONS; n++) {
                if (power == UNIT) {
                    return n;
                }
                power = times(power, key);
            }
            return NONE;
        }

        private int movedByLeft(int shift, int place) {
            int x = place / (EDGE * EDGE);
            int y = place / EDGE % EDGE;
            int z = place % EDGE;
            int first = left[0] * x + left[1] * y + left[2] * z + shift / (EDGE * EDGE);
            int second = left[3] * x + left[4] * y + left[5] * z + shift / EDGE % EDGE;
            int third = left[6] * x + left[7] * y + left[8] * z + shift % EDGE;
            // Each is at least -69, so that three edges more leave nothing below 0.
            return ((first + 3 * EDGE) % EDGE * EDGE + (second + 3 * EDGE) % EDGE) * EDGE
                + (third + 3 * EDGE) % EDGE;
        }

        private static void read(int key, int[] matrix) {
            int nine = key / PLACES;
            for (int i = 8; i >= 0 && i < matrix.length; i--) {
                matrix[i] = nine % 3 - 1;
                nine /= 3;
            }
        }
    }

    /** All PRODUCTS of the OPERATIONS taken since the start. */
    private static final class Closure {
        private final Bench bench;
        private final Row found = new Row(MOST_OPERATIONS);
        /** The found keys as they came: each generator's taking adds whole cosets of those before. */
        private final int[] came = new int[MOST_OPERATIONS];
        private int cameCount = 0;
        /** Each at least doubles what was found, so that ten are more than 192 allow. */
        private final int[] generators = new int[MOST_CHOSEN];
        private int generatorCount = 0;

        Closure(Bench bench) {
            this.bench = bench;
        }

        void start() {
            found.clear();
            found.add(UNIT);
            came[0] = UNIT;
            cameCount = 1;
            generatorCount = 0;
        }

        Row found() {
            return found;
        }

        int generatorCount() {
            return generatorCount;
        }

        int generator(int g) {
            return g >= 0 && g < generatorCount && g < generators.length ? generators[g] : NONE;
        }

        /** False when a PRODUCT is no OPERATION or there are too many: then only start() may follow. */
        boolean take(int key) {
            if (found.has(key)) {
                return true;
            }
            if (generatorCount >= generators.length) {
                return false;
            }
            generators[generatorCount] = key;
            generatorCount++;
            // What was found is a GROUP already, so that only the first of each coset is multiplied on.
            int coset = Math.max(cameCount, 1);
            if (!addCoset(key, coset)) {
                return false;
            }
            for (int first = coset; first < cameCount && first < MOST_OPERATIONS; first += coset) {
                for (int g = 0; g < generatorCount; g++) {
                    int next = bench.times(came[first], generator(g));
                    if (next == NONE || !found.has(next) && !addCoset(next, coset)) {
                        return false;
                    }
                }
            }
            return true;
        }

        private boolean addCoset(int key, int coset) {
            for (int i = 0; i < coset && i < came.length; i++) {
                int next = bench.times(came[i], key);
                if (next == NONE || cameCount >= came.length || !found.add(next)) {
                    return false;
                }
                came[cameCount] = next;
                cameCount++;
            }
            return true;
        }
    }

    /** A GROUP that has a number; what is dear to know of it is found out when it is first asked. */
    private static final class Group {
        private final Row keys;
        private final int matrices;
        private final int centrings;
        private final int letter;
        private final int pointClass;
        private AlikeSets alikeSets = null;
        private Halves halves = null;

        Group(Row gathered, Bench bench) {
            keys = new Row(gathered.size());
            int different = 0;
            int units = 0;
            int before = NONE;
            for (int i = 0; i < gathered.size(); i++) {
                int nine = gathered.at(i) / PLACES;
                keys.add(gathered.at(i));
                different += nine == before ? 0 : 1;
                units += nine == UNIT_NINE ? 1 : 0;
                before = nine;
            }
            matrices = different;
            centrings = units;
            letter = letterOf(keys, units);
            pointClass = classOf(keys, bench);
        }

        Row keys() {
            return keys;
        }

        int matrices() {
            return matrices;
        }

        int centrings() {
            return centrings;
        }

        int letter() {
            return letter;
        }

        int pointClass() {
            return pointClass;
        }

        AlikeSets alikeSets(Bench bench, Closure closure) {
            if (alikeSets == null) {
                alikeSets = new AlikeSets(keys, bench, closure);
            }
            return alikeSets;
        }

        Halves halves(Bench bench, Closure closure) {
            if (halves == null) {
                halves = new Halves(keys, bench, closure);
            }
            return halves;
        }

        private static int letterOf(Row keys, int centrings) {
            int unit = keys.indexOf(UNIT);
            int second = keys.at(unit + 1) - UNIT;
            int third = keys.at(unit + 2) - UNIT;
            int fourth = keys.at(unit + 3) - UNIT;
            switch (centrings) {
                case 1:
                    return 0;
                case 2:
                    return letterOfTwo(second);
                case 3:
                    if (second == OBVERSE_LOW && third == OBVERSE_HIGH) {
                        return 6;
                    }
                    return second == REVERSE_LOW && third == REVERSE_HIGH ? 7 : 8;
                case 4:
                    return second == A_SHIFT && third == B_SHIFT && fourth == C_SHIFT ? 5 : 8;
                default:
                    return 8;
            }
        }

        private static int letterOfTwo(int shift) {
            switch (shift) {
                case A_SHIFT:
                    return 1;
                case B_SHIFT:
                    return 2;
                case C_SHIFT:
                    return 3;
                case I_SHIFT:
                    return 4;
                default:
                    return 8;
            }
        }
    }

    /** The sets of ALIKE OPERATIONS of a GROUP. */
    private static final class AlikeSets {
        private final int[] setOf;
        private final int[] sizes;
        private int count;

        AlikeSets(Row keys, Bench bench, Closure closure) {
            int size = keys.size();
            setOf = new int[size];
            sizes = new int[size];
            count = size;
            closure.start();
            for (int i = 0; i < size; i++) {
                setOf[i] = i;
                closure.take(keys.at(i));
            }
            // Who is ALIKE by any c is so by a chain of generators.
            int[] before = new int[size];
            for (int g = 0; g < closure.generatorCount(); g++) {
                joinBy(closure.generator(g), keys, bench, before);
            }
            for (int i = 0; i < size; i++) {
                int set = setOf[i];
                if (set >= 0 && set < size) {
                    sizes[set]++;
                }
            }
        }

        int count() {
            return count;
        }

        int sizeOf(int k) {
            int set = k >= 0 && k < setOf.length ? setOf[k] : NONE;
            return set >= 0 && set < sizes.length ? sizes[set] : NONE;
        }

        /** Joins a and b wherever c a = b c; before[k] is the b with b c = k. */
        private void joinBy(int c, Row keys, Bench bench, int[] before) {
            for (int b = 0; b < before.length; b++) {
                int k = keys.indexOf(bench.times(keys.at(b), c));
                if (k >= 0 && k < before.length) {
                    before[k] = b;
                }
            }
            for (int a = 0; a < before.length; a++) {
                int k = keys.indexOf(bench.times(c, keys.at(a)));
                if (k >= 0 && k < before.length) {
                    join(a, before[k]);
                }
            }
        }

        private void join(int a, int b) {
            if (a < 0 || a >= setOf.length || b < 0 || b >= setOf.length || setOf[a] == setOf[b]) {
                return;
            }
            int kept = setOf[a];
            int gone = setOf[b];
            for (int i = 0; i < setOf.length; i++) {
                if (setOf[i] == gone) {
                    setOf[i] = kept;
                }
            }
            count--;
        }
    }

    /**
     * The HALVES of a GROUP. Each has all squares, so it has all their PRODUCTS; by these the GROUP
     * falls apart into 1, 2, 4 .. cosets. A coset's code has a bit for each OPERATION that was needed,
     * in ORDER, to reach the next ones from those before, and a HALF is told by which bits it refuses.
     */
    private static final class Halves {
        private final int[] codes;
        private int bits = 0;

        Halves(Row keys, Bench bench, Closure closure) {
            codes = new int[keys.size()];
            closure.start();
            for (int i = 0; i < codes.length; i++) {
                closure.take(bench.times(keys.at(i), keys.at(i)));
            }
            for (int i = 0; i < codes.length; i++) {
                codes[i] = closure.found().has(keys.at(i)) ? 0 : NONE;
            }
            for (int i = 0; i < codes.length; i++) {
                if (codes[i] == NONE) {
                    addBit(i, keys, bench);
                }
            }
        }

        int count() {
            return (1 << bits) - 1;
        }

        /** Puts the keys of HALF k into a row. */
        void gather(int k, Row keys, Row into) {
            int refused = refusedBits(k);
            into.clear();
            for (int i = 0; i < codes.length; i++) {
                if (Integer.bitCount(codes[i] & refused) % 2 == 0) {
                    into.add(keys.at(i));
                }
            }
        }

        /**
         * Two HALVES first differ at the OPERATION of the first bit that only one refuses, and the one
         * that has it comes first: so the first bit counts most, and the HALF that refuses none is none.
         */
        private int refusedBits(int k) {
            int refused = 0;
            for (int bit = 0; bit < bits; bit++) {
                refused = refused << 1 | (k + 1) >>> bit & 1;
            }
            return refused;
        }

        private void addBit(int i, Row keys, Bench bench) {
            int bit = 1 << bits;
            bits++;
            for (int x = 0; x < codes.length; x++) {
                if (codes[x] != NONE && codes[x] < bit) {
                    int k = keys.indexOf(bench.times(keys.at(x), keys.at(i)));
                    if (k >= 0 && k < codes.length) {
                        codes[k] = codes[x] | bit;
                    }
                }
            }
        }
    }
}
