import java.util.ArrayList;
import java.util.List;

/** Long runs of calls, all kinds mixed, against the document's definitions done anew by Oracle. */
public final class OracleTest {
    private static final int RUNS = 60;

    /** Generators of GROUPS with all LETTERS, many CLASSES and screw axes and glide planes. */
    private static final String[][] KNOWN = {
        {},
        {"-x,-y,-z"},
        {"-x,y+1/2,-z+1/2", "-x,-y,-z"},
        {"-x+1/2,-y,z+1/2", "-x,y+1/2,-z+1/2", "-x,-y,-z"},
        {"-x,-y,z", "-x,y,-z", "-x,-y,-z", "x+1/2,y,z", "x,y+1/2,z", "x,y,z+1/2"},
        {"x,y+1/2,z+1/2", "-x,-y,z", "x,-y,z"},
        {"x+1/2,y,z+1/2", "-x,y,-z"},
        {"x+1/2,y+1/2,z", "x,-y,z+1/2", "-x,-y,-z"},
        {"x+1/2,y+1/2,z+1/2", "-y,x,z", "-x,y,-z", "-x,-y,-z"},
        {"-y+1/4,x+3/4,z+1/4", "x+1/2,y+1/2,z+1/2", "-x+1/2,y,-z+3/4", "-x,-y,-z"},
        {"-y,x,z+1/4"},
        {"-y,x,z+1/8"},
        {"y,-x,-z", "-x,y,-z+1/2"},
        {"x+2/3,y+1/3,z+1/3", "-y,x-y,z", "y,x,-z", "-x,-y,-z"},
        {"x+1/3,y+2/3,z+1/3", "-y,x-y,z"},
        {"-y,x-y,z+1/3"},
        {"x-y,x,z+1/6", "y,x,-z"},
        {"x-y,x,z", "y,x,-z", "-x,-y,-z"},
        {"x-y,x,z+1/2", "-x,-y,-z"},
        {"z,x,y", "-x,-y,z"},
        {"z,x,y", "-y,x,z", "-x,-y,-z"},
        {"z,x,y", "y,-x,-z"},
        {"z,x,y", "-x+1/2,-y,z+1/2", "-x,-y,-z"},
        {"z,x,y", "y+3/4,x+1/4,-z+3/4", "-x+1/2,-y,z+1/2"},
        {"x,y+1/2,z+1/2", "x+1/2,y,z+1/2", "z,x,y", "-y,x,z", "-x,-y,-z"},
        {"x,y+1/2,z+1/2", "x+1/2,y,z+1/2", "z,x,y", "y+3/4,x+1/4,-z+3/4", "-x+1/4,-y+1/4,-z+1/4",
            "-x,-y+1/2,z+1/2"},
        {"x+1/24,y,z", "x,y+1/8,z"},
        {"x+1/24,y,z", "x,y+1/12,z"},
        {"x+1/2,y,z", "z,x,y", "-y,x,z", "-x,-y,-z"},
        {"x+1/2,y,z", "x,y+1/2,z", "x,y,z+1/4", "-x,-y,z", "-x,y,-z", "-x,-y,-z"},
        {"x+1/3,y+1/3,z+1/3", "z,x,y"},
        {"x+1/4,y+1/4,z"},
        {"-x+y,-z+y,y"},
        {"-x,y-x,z-x", "z,x,y"},
        {"y,z,-x-y-z"},
        {"y,x,z", "y,z,-x-y-z", "-x,-y,-z"},
        {"y,x,z", "y,z,-x-y-z+1/4", "-x,-y,-z+1/2"},
    };

    private static final int[] PLACES_TRIED = {
        0, 1, 30, 300, 6924, 7212, 5008, 9416, 13823, Xyz.place(3, 3, 3), Xyz.place(6, 6, 6),
        Xyz.place(3, 6, 9), Xyz.place(0, 0, 5), Xyz.place(5, 5, 5), Xyz.place(8, 16, 0)
    };

    private long seed;
    private final GroupHalls halls = new GroupHalls();
    private final Oracle oracle = new Oracle();
    private final Check check;
    private int calls = 0;

    private OracleTest(int run, Check check) {
        this.seed = run * 7919L + 17;
        this.check = check;
    }

    private int below(int bound) {
        seed = seed * 6364136223846793005L + 1442695040888963407L;
        return (int) Math.floorMod(seed >>> 33, (long) bound);
    }

    private int aGroup() {
        return below(30) == 0 ? below(50) - 5 : below(Math.max(1, groupsNow + 1));
    }

    private int groupsNow = 0;

    private void grown(int number) {
        groupsNow = Math.max(groupsNow, number + 1);
    }

    private int aPlace() {
        int way = below(20);
        return way == 0 ? below(20000) - 3000 : way < 8 ? below(13824)
            : PLACES_TRIED[below(PLACES_TRIED.length)];
    }

    private void choose(int nine, int place) {
        calls++;
        check.due("choose(" + nine + ", " + place + ")", oracle.choose(nine, place), halls.choose(nine, place));
    }

    private void chooseSome() {
        int way = below(10);
        String[] known = KNOWN[below(KNOWN.length)];
        for (String text : known) {
            if (way < 8 || below(2) == 0) {
                Xyz op = new Xyz(text);
                choose(op.nine, op.shift);
            }
        }
        if (way == 9) {
            String[] more = KNOWN[below(KNOWN.length)];
            for (String text : more) {
                Xyz op = new Xyz(text);
                choose(op.nine, below(3) == 0 ? Xyz.place(12, 0, 12) : op.shift);
            }
        }
        if (below(8) == 0) {
            choose(below(20000) - 100, below(14000) - 50);
        }
        groupOf();
    }

    private void groupOf() {
        calls++;
        int want = oracle.group();
        check.due("group()", want, halls.group());
        grown(want);
    }

    private void sizesOf() {
        int g = aGroup();
        int what = below(9) - 1;
        check.due("about(" + g + ", " + what + ")", oracle.about(g, what), halls.about(g, what));
    }

    private void onesOf() {
        int g = aGroup();
        int n = Math.max(1, oracle.about(g, 0));
        int k = below(n + 2) - 1;
        int j = below(n + 2) - 1;
        int what = below(7) - 1;
        check.due("of(" + g + ", " + k + ", " + what + ")", oracle.of(g, k, what), halls.of(g, k, what));
        check.due("product(" + g + ", " + k + ", " + j + ")", oracle.product(g, k, j), halls.product(g, k, j));
        int other = aGroup();
        int nine = oracle.of(other, k, 0) + (below(9) == 0 ? 1 : 0);
        int place = oracle.of(other, k, 1);
        check.due("find(" + g + ", " + nine + ", " + place + ")", oracle.find(g, nine, place),
            halls.find(g, nine, place));
        calls += 2;
    }

    private void newOf() {
        int g = aGroup();
        int other = aGroup();
        int want;
        switch (below(6)) {
            case 0: case 1:
                int halves = oracle.about(g, 6);
                int k = below(Math.max(halves, 0) + 2) - 1;
                want = oracle.half(g, k);
                check.due("half(" + g + ", " + k + ") of " + halves, want, halls.half(g, k));
                break;
            case 2:
                want = oracle.both(g, other);
                check.due("both(" + g + ", " + other + ")", want, halls.both(g, other));
                break;
            case 3:
                want = oracle.centre(g);
                check.due("centre(" + g + ")", want, halls.centre(g));
                break;
            default:
                int place = aPlace();
                want = oracle.keepers(g, place);
                check.due("keepers(" + g + ", " + place + ")", want, halls.keepers(g, place));
                break;
        }
        grown(want);
    }

    private void placesOf() {
        int g = aGroup();
        int place = aPlace();
        int what = below(3) == 0 ? below(60) - 5 : -1 - below(3);
        check.due("orbit(" + g + ", " + place + ", " + what + ")", oracle.orbit(g, place, what),
            halls.orbit(g, place, what));
        int other = aGroup();
        check.due("within(" + g + ", " + other + ")", oracle.within(g, other), halls.within(g, other));
        calls++;
    }

    private void run() {
        while (calls < 500 && check.wrong() < 20) {
            calls++;
            switch (below(7)) {
                case 0: chooseSome(); break;
                case 1: case 2: sizesOf(); break;
                case 3: onesOf(); break;
                case 4: newOf(); break;
                default: placesOf(); break;
            }
        }
    }

    /** Every OPERATION, PRODUCT and HALF of each known GROUP. */
    private void whole(String[] known) {
        for (String text : known) {
            Xyz op = new Xyz(text);
            choose(op.nine, op.shift);
        }
        groupOf();
        int n = Math.max(0, oracle.about(0, 0));
        for (int what = 0; what <= 6; what++) {
            check.due("about(0, " + what + ")", oracle.about(0, what), halls.about(0, what));
        }
        for (int k = 0; k < n; k++) {
            for (int what = 0; what <= 4; what++) {
                check.due("of(0, " + k + ", " + what + ")", oracle.of(0, k, what), halls.of(0, k, what));
            }
            for (int j = 0; j < n; j++) {
                check.due("product(0, " + k + ", " + j + ")", oracle.product(0, k, j), halls.product(0, k, j));
            }
        }
        if (n > 0 && n <= 16) {
            check.due("halves by trying", oracle.halvesByTrying(0), halls.about(0, 6));
        }
        for (int k = 0; k <= oracle.about(0, 6); k++) {
            check.due("half(0, " + k + ")", oracle.half(0, k), halls.half(0, k));
        }
        for (int g = 0; g < 40; g++) {
            for (int k = 0; k < oracle.about(g, 0); k++) {
                check.due("of(" + g + ", " + k + ", 0)", oracle.of(g, k, 0), halls.of(g, k, 0));
                check.due("of(" + g + ", " + k + ", 1)", oracle.of(g, k, 1), halls.of(g, k, 1));
            }
        }
    }

    private void small() {
        groupOf();
        for (int what = 0; what <= 6; what++) {
            check.due("about(0, " + what + ")", oracle.about(0, what), halls.about(0, what));
        }
        int place = Xyz.place(23, 22, 19);
        for (int what = -3; what <= 4; what++) {
            check.due("orbit(0, " + place + ", " + what + ")", oracle.orbit(0, place, what),
                halls.orbit(0, place, what));
        }
    }

    /** Every MATRIX alone, then many pairs and threes of those that have a GROUP. */
    private static void everyMatrix(Check check) {
        List<Integer> good = new ArrayList<>();
        for (int nine = -2; nine < 19690; nine++) {
            OracleTest test = new OracleTest(nine, check);
            test.choose(nine, nine % 3 == 0 ? Xyz.place(12, 0, 12) : 0);
            test.small();
            if (test.oracle.about(0, 0) > 1) {
                good.add(nine);
            }
        }
        for (int i = 0; i < 6000 && check.wrong() < 20; i++) {
            OracleTest test = new OracleTest(i, check);
            for (int n = 0; n < 2 + i % 2; n++) {
                test.choose(good.get(test.below(good.size())), test.below(2) * Xyz.place(12, 12, 0));
            }
            test.small();
        }
    }

    public static void main(String[] args) {
        Check check = new Check();
        for (int run = 0; run < RUNS; run++) {
            new OracleTest(run, check).run();
        }
        for (int i = 0; i < KNOWN.length; i++) {
            new OracleTest(i, check).whole(KNOWN[i]);
        }
        everyMatrix(check);
        check.end();
    }
}
