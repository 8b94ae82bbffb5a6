import java.util.ArrayList;
import java.util.Arrays;
import java.util.HashMap;
import java.util.HashSet;
import java.util.List;
import java.util.Map;
import java.util.Set;
import java.util.TreeSet;

/** The document once more, by its definitions alone and without a thought for speed. */
final class Oracle {
    static final int NONE = -1;

    /** The document's rows of the CLASSES 1 .. 32. */
    static final String[] CLASSES = {
        "", "0 0 0 0 1", "1", "0 0 0 0 0 1", "1 0 0 0 1 1", "3", "1 0 0 0 0 2", "3 0 0 0 1 3",
        "1 0 2", "1 0 0 0 0 0 0 2", "1 0 2 0 1 1 0 2", "5 0 2", "1 0 2 0 0 4", "3 0 0 0 0 2 0 2",
        "5 0 2 0 1 5 0 2", "0 2", "0 2 0 0 1 0 2", "3 2", "0 2 0 0 0 3", "3 2 0 0 1 3 2",
        "1 2 0 2", "0 2 0 0 0 1 0 0 2", "1 2 0 2 1 1 2 0 2", "7 2 0 2", "1 2 0 2 0 6",
        "3 2 0 0 0 4 0 0 2", "7 2 0 2 1 7 2 0 2", "3 8", "3 8 0 0 1 3 8", "9 8 6",
        "3 8 0 0 0 6 0 6", "9 8 6 0 1 9 8 6"
    };
    private static final String[] LETTERS = {
        "", "0 12 12;", "12 0 12;", "12 12 0;", "12 12 12;", "0 12 12;12 0 12;12 12 0;",
        "8 16 16;16 8 8;", "8 16 8;16 8 16;"
    };

    /** An OPERATION: nine numbers of the MATRIX, three of the SHIFT. */
    private static final class Op implements Comparable<Op> {
        final int[] n = new int[12];

        static Op told(int nine, int place) {
            Op op = new Op();
            String digits = String.format("%9s", Integer.toString(nine, 3)).replace(' ', '0');
            for (int i = 0; i < 9; i++) {
                op.n[i] = digits.charAt(i) - '1';
            }
            op.n[9] = place / 576;
            op.n[10] = place / 24 % 24;
            op.n[11] = place % 24;
            return op;
        }

        static Op unit() {
            Op op = new Op();
            op.n[0] = op.n[4] = op.n[8] = 1;
            return op;
        }

        int at(int row, int column) {
            return n[3 * row + column];
        }

        int nine() {
            StringBuilder digits = new StringBuilder();
            for (int i = 0; i < 9; i++) {
                digits.append(n[i] + 1);
            }
            return Integer.parseInt(digits.toString(), 3);
        }

        int shift() {
            return n[9] * 576 + n[10] * 24 + n[11];
        }

        int det() {
            int sum = 0;
            for (int i = 0; i < 3; i++) {
                int j = (i + 1) % 3;
                int k = (i + 2) % 3;
                sum += at(0, i) * (at(1, j) * at(2, k) - at(1, k) * at(2, j));
            }
            return sum;
        }

        int sort() {
            int trace = at(0, 0) + at(1, 1) + at(2, 2);
            switch (det() + ":" + trace) {
                case "1:3": return 1;
                case "1:-1": return 2;
                case "1:0": return 3;
                case "1:1": return 4;
                case "1:2": return 6;
                case "-1:-3": return -1;
                case "-1:1": return -2;
                case "-1:0": return -3;
                case "-1:-1": return -4;
                case "-1:-2": return -6;
                default: return 0;
            }
        }

        /** Null if it is no OPERATION. */
        Op times(Op q) {
            Op op = new Op();
            for (int row = 0; row < 3; row++) {
                int shift = n[9 + row];
                for (int column = 0; column < 3; column++) {
                    int sum = 0;
                    for (int k = 0; k < 3; k++) {
                        sum += at(row, k) * q.at(k, column);
                    }
                    if (Math.abs(sum) > 1) {
                        return null;
                    }
                    op.n[3 * row + column] = sum;
                    shift += at(row, column) * q.n[9 + column];
                }
                op.n[9 + row] = Math.floorMod(shift, 24);
            }
            return op;
        }

        int moves(int place) {
            int[] from = {place / 576, place / 24 % 24, place % 24};
            int to = 0;
            for (int row = 0; row < 3; row++) {
                int sum = n[9 + row];
                for (int k = 0; k < 3; k++) {
                    sum += at(row, k) * from[k];
                }
                to = to * 24 + Math.floorMod(sum, 24);
            }
            return to;
        }

        /** An affine map leaves all PLACES if it leaves the corner and one step on each axis. */
        int turns() {
            int[] tried = {0, 576, 24, 1};
            int[] now = tried.clone();
            for (int n = 1; ; n++) {
                for (int i = 0; i < 4; i++) {
                    now[i] = moves(now[i]);
                }
                if (Arrays.equals(now, tried)) {
                    return n;
                }
            }
        }

        @Override
        public int compareTo(Op other) {
            return Arrays.compare(n, other.n);
        }

        @Override
        public boolean equals(Object other) {
            return other instanceof Op && Arrays.equals(n, ((Op) other).n);
        }

        @Override
        public int hashCode() {
            return Arrays.hashCode(n);
        }
    }

    private final List<List<Op>> groups = new ArrayList<>();
    private final List<int[][]> tables = new ArrayList<>();
    private final List<List<List<Op>>> halves = new ArrayList<>();
    private final List<Op> chosen = new ArrayList<>();

    int choose(int nine, int place) {
        if (chosen.size() == 10 || nine < 0 || nine > 19682 || place < 0 || place > 13823) {
            return NONE;
        }
        Op op = Op.told(nine, place);
        if (Math.abs(op.det()) != 1) {
            return NONE;
        }
        chosen.add(op);
        return chosen.size();
    }

    int group() {
        List<Op> list = new ArrayList<>(List.of(Op.unit()));
        Set<Op> set = new HashSet<>(list);
        boolean good = true;
        for (int i = 0; good && i < list.size(); i++) {
            for (Op g : chosen) {
                Op next = list.get(i).times(g);
                if (next == null) {
                    good = false;
                    break;
                }
                if (set.add(next)) {
                    list.add(next);
                }
            }
            good &= list.size() <= 192;
        }
        chosen.clear();
        return good ? number(list) : NONE;
    }

    private int number(List<Op> ops) {
        List<Op> sorted = new ArrayList<>(new TreeSet<>(ops));
        int known = groups.indexOf(sorted);
        if (known >= 0) {
            return known;
        }
        if (groups.size() == 40) {
            return NONE;
        }
        groups.add(sorted);
        tables.add(null);
        halves.add(null);
        return groups.size() - 1;
    }

    private boolean is(int group) {
        return group >= 0 && group < groups.size();
    }

    private int[][] table(int group) {
        if (tables.get(group) == null) {
            List<Op> ops = groups.get(group);
            Map<Op, Integer> numbers = new HashMap<>();
            for (int i = 0; i < ops.size(); i++) {
                numbers.put(ops.get(i), i);
            }
            int[][] table = new int[ops.size()][ops.size()];
            for (int i = 0; i < ops.size(); i++) {
                for (int j = 0; j < ops.size(); j++) {
                    table[i][j] = numbers.get(ops.get(i).times(ops.get(j)));
                }
            }
            tables.set(group, table);
        }
        return tables.get(group);
    }

    private Set<Integer> alike(int group, int a) {
        int[][] t = table(group);
        Set<Integer> set = new TreeSet<>();
        for (int c = 0; c < t.length; c++) {
            for (int b = 0; b < t.length; b++) {
                if (t[c][a] == t[b][c]) {
                    set.add(b);
                }
            }
        }
        return set;
    }

    int about(int group, int what) {
        if (!is(group)) {
            return NONE;
        }
        List<Op> ops = groups.get(group);
        switch (what) {
            case 0: return ops.size();
            case 1: return (int) ops.stream().map(Op::nine).distinct().count();
            case 2: return (int) ops.stream().filter(op -> op.nine() == Op.unit().nine()).count();
            case 3: return letter(ops);
            case 4: return classOf(ops);
            case 5:
                Set<Set<Integer>> sets = new HashSet<>();
                for (int a = 0; a < ops.size(); a++) {
                    sets.add(alike(group, a));
                }
                return sets.size();
            case 6: return halvesOf(group).size();
            default: return NONE;
        }
    }

    private static int letter(List<Op> ops) {
        StringBuilder shifts = new StringBuilder();
        for (Op op : ops) {
            if (op.nine() == Op.unit().nine() && op.shift() != 0) {
                shifts.append(op.n[9]).append(' ').append(op.n[10]).append(' ').append(op.n[11]).append(';');
            }
        }
        int letter = Arrays.asList(LETTERS).indexOf(shifts.toString());
        return letter < 0 ? 8 : letter;
    }

    private static int classOf(List<Op> ops) {
        int[] sorts = {2, 3, 4, 6, -1, -2, -3, -4, -6};
        int[] counts = new int[9];
        Set<Integer> nines = new HashSet<>();
        for (Op op : ops) {
            for (int i = 0; i < 9; i++) {
                if (op.sort() == sorts[i] && nines.add(op.nine())) {
                    counts[i]++;
                }
            }
        }
        for (int c = 0; c < CLASSES.length; c++) {
            int[] row = new int[9];
            String[] words = CLASSES[c].isEmpty() ? new String[0] : CLASSES[c].split(" ");
            for (int i = 0; i < words.length; i++) {
                row[i] = Integer.parseInt(words[i]);
            }
            if (Arrays.equals(row, counts)) {
                return c + 1;
            }
        }
        throw new IllegalStateException("no CLASS");
    }

    /** Every HALF is the kernel of a map onto two signs, which the signs of some generators tell. */
    private List<List<Op>> halvesOf(int group) {
        if (halves.get(group) != null) {
            return halves.get(group);
        }
        List<Op> ops = groups.get(group);
        int[][] t = table(group);
        int n = t.length;
        int unit = ops.indexOf(Op.unit());
        List<Integer> generators = generators(t, unit);
        List<boolean[]> found = new ArrayList<>();
        for (int signs = 1; signs < 1 << generators.size(); signs++) {
            boolean[] in = kernel(t, unit, generators, signs);
            if (in != null) {
                found.add(in);
            }
        }
        found.sort((one, two) -> {
            int i = 0;
            while (i < n && one[i] == two[i]) {
                i++;
            }
            return i == n ? 0 : one[i] ? -1 : 1;
        });
        List<List<Op>> lists = new ArrayList<>();
        for (boolean[] in : found) {
            List<Op> list = new ArrayList<>();
            for (int i = 0; i < n; i++) {
                if (in[i]) {
                    list.add(ops.get(i));
                }
            }
            lists.add(list);
        }
        halves.set(group, lists);
        return lists;
    }

    private static List<Integer> generators(int[][] t, int unit) {
        List<Integer> generators = new ArrayList<>();
        Set<Integer> reached = new TreeSet<>(List.of(unit));
        for (int i = t.length - 1; i >= 0; i--) {
            if (!reached.contains(i)) {
                generators.add(i);
                reached = reach(t, unit, generators);
            }
        }
        return generators;
    }

    private static Set<Integer> reach(int[][] t, int unit, List<Integer> generators) {
        List<Integer> list = new ArrayList<>(List.of(unit));
        Set<Integer> set = new TreeSet<>(list);
        for (int i = 0; i < list.size(); i++) {
            for (int g : generators) {
                if (set.add(t[list.get(i)][g])) {
                    list.add(t[list.get(i)][g]);
                }
            }
        }
        return set;
    }

    private static boolean[] kernel(int[][] t, int unit, List<Integer> generators, int signs) {
        int n = t.length;
        int[] sign = new int[n];
        Arrays.fill(sign, -1);
        sign[unit] = 0;
        List<Integer> list = new ArrayList<>(List.of(unit));
        for (int i = 0; i < list.size(); i++) {
            for (int g = 0; g < generators.size(); g++) {
                int next = t[list.get(i)][generators.get(g)];
                int due = sign[list.get(i)] ^ signs >> g & 1;
                if (sign[next] < 0) {
                    sign[next] = due;
                    list.add(next);
                } else if (sign[next] != due) {
                    return null;
                }
            }
        }
        boolean[] in = new boolean[n];
        int count = 0;
        for (int i = 0; i < n; i++) {
            in[i] = sign[i] == 0;
            count += in[i] ? 1 : 0;
        }
        if (2 * count != n) {
            return null;
        }
        for (int i = 0; i < n; i++) {
            for (int j = 0; j < n; j++) {
                if (in[i] && in[j] && !in[t[i][j]]) {
                    return null;
                }
            }
        }
        return in;
    }

    /** How many HALVES there are by trying every set of half as many; for small GROUPS alone. */
    int halvesByTrying(int group) {
        int[][] t = table(group);
        int n = t.length;
        int count = 0;
        for (int set = 0; set < 1 << n; set++) {
            count += 2 * Integer.bitCount(set) == n && isClosed(t, set) ? 1 : 0;
        }
        return count;
    }

    private static boolean isClosed(int[][] t, int set) {
        for (int i = 0; i < t.length; i++) {
            for (int j = 0; (set >> i & 1) == 1 && j < t.length; j++) {
                if ((set >> j & 1) == 1 && (set >> t[i][j] & 1) == 0) {
                    return false;
                }
            }
        }
        return true;
    }

    int of(int group, int k, int what) {
        if (!is(group) || k < 0 || k >= groups.get(group).size()) {
            return NONE;
        }
        Op op = groups.get(group).get(k);
        switch (what) {
            case 0: return op.nine();
            case 1: return op.shift();
            case 2: return op.sort();
            case 3: return op.turns();
            case 4: return alike(group, k).size();
            default: return NONE;
        }
    }

    int product(int group, int i, int j) {
        if (!is(group)) {
            return NONE;
        }
        int n = groups.get(group).size();
        return i < 0 || j < 0 || i >= n || j >= n ? NONE : table(group)[i][j];
    }

    int find(int group, int nine, int place) {
        if (!is(group) || nine < 0 || nine > 19682 || place < 0 || place > 13823) {
            return NONE;
        }
        return groups.get(group).indexOf(Op.told(nine, place));
    }

    int half(int group, int k) {
        if (!is(group) || k < 0 || k >= halvesOf(group).size()) {
            return NONE;
        }
        return number(halvesOf(group).get(k));
    }

    int both(int group, int other) {
        if (!is(group) || !is(other)) {
            return NONE;
        }
        List<Op> common = new ArrayList<>(groups.get(group));
        common.retainAll(groups.get(other));
        return number(common);
    }

    int centre(int group) {
        if (!is(group)) {
            return NONE;
        }
        List<Op> kept = new ArrayList<>();
        for (int a = 0; a < groups.get(group).size(); a++) {
            if (alike(group, a).size() == 1) {
                kept.add(groups.get(group).get(a));
            }
        }
        return number(kept);
    }

    boolean within(int group, int other) {
        return is(group) && is(other) && groups.get(other).containsAll(groups.get(group));
    }

    private List<Op> keepersOf(int group, int place) {
        List<Op> kept = new ArrayList<>(groups.get(group));
        kept.removeIf(op -> op.moves(place) != place);
        return kept;
    }

    int orbit(int group, int place, int what) {
        if (!is(group) || place < 0 || place > 13823) {
            return NONE;
        }
        TreeSet<Integer> places = new TreeSet<>();
        for (Op op : groups.get(group)) {
            places.add(op.moves(place));
        }
        if (what == -1) {
            return places.size();
        }
        if (what == -2) {
            return keepersOf(group, place).size();
        }
        if (what == -3) {
            return classOf(keepersOf(group, place));
        }
        return what < 0 || what >= places.size() ? NONE : new ArrayList<>(places).get(what);
    }

    int keepers(int group, int place) {
        return !is(group) || place < 0 || place > 13823 ? NONE : number(keepersOf(group, place));
    }
}
