/** Every call with wild arguments in many states: no call throws, and each answers as Oracle does. */
public final class WildTest {
    private static final int LOW = Integer.MIN_VALUE;
    private static final int HIGH = Integer.MAX_VALUE;
    private static final int[] WILD = {
        LOW, LOW + 1, LOW / 2, -13825, -13824, -19683, -193, -41, -4, -3, -2, -1, 0, 1, 2, 3, 4, 5, 6, 7, 8, 9, 10,
        11, 23, 24, 30, 38, 39, 40, 41, 191, 192, 193, 576, 6912, 13823, 13824, 16484, 19652, 19682, 19683,
        (1 << 23) + 16484, HIGH / 2, HIGH - 1, HIGH
    };
    private static final String[][][] STATES = {
        {},
        {{}},
        {{"-y,x,z", "-x,y,-z"}, {"-x,-y,-z"}, {"z,x,y", "-x,-y,z"}},
        {{"-x,-y,z", "-x,y,-z", "-x,-y,-z", "x+1/2,y,z"}, {"x+1/24,y,z"}, {"x+y,y,z"}}
    };
    private static final int MOST_CALLS = 512;

    private final Check check;
    private final String[][] state;
    private final int groups;
    private GroupHalls halls;
    private Oracle oracle;
    private int calls;

    private WildTest(Check check, String[][] state, int groups) {
        this.check = check;
        this.state = state;
        this.groups = groups;
        begin();
    }

    private void begin() {
        halls = new GroupHalls();
        oracle = new Oracle();
        calls = 0;
        for (String[] texts : state) {
            for (String text : texts) {
                choose(new Xyz(text).nine, new Xyz(text).shift);
            }
            group();
        }
        for (int i = 0; i < groups; i++) {
            choose(new Xyz("x,y,-z").nine, i % 24 + i / 24 * 576);
            group();
        }
    }

    /** Counts a call; an object that has had its 512 is left for a new one in the same state. */
    private void call() {
        if (calls >= MOST_CALLS) {
            begin();
        }
        calls++;
    }

    private void choose(int nine, int place) {
        call();
        check.due("choose(" + nine + ", " + place + ")", oracle.choose(nine, place), halls.choose(nine, place));
    }

    private void group() {
        call();
        check.due("group()", oracle.group(), halls.group());
    }

    private void one(int a) {
        call();
        check.due("centre(" + a + ")", oracle.centre(a), halls.centre(a));
    }

    private void two(int a, int b) {
        String told = "(" + a + ", " + b + ")";
        choose(a, b);
        call();
        check.due("about" + told, oracle.about(a, b), halls.about(a, b));
        call();
        check.due("half" + told, oracle.half(a, b), halls.half(a, b));
        call();
        check.due("both" + told, oracle.both(a, b), halls.both(a, b));
        call();
        check.due("within" + told, oracle.within(a, b), halls.within(a, b));
        call();
        check.due("keepers" + told, oracle.keepers(a, b), halls.keepers(a, b));
    }

    private void three(int a, int b, int c) {
        String told = "(" + a + ", " + b + ", " + c + ")";
        call();
        check.due("of" + told, oracle.of(a, b, c), halls.of(a, b, c));
        call();
        check.due("product" + told, oracle.product(a, b, c), halls.product(a, b, c));
        call();
        check.due("find" + told, oracle.find(a, b, c), halls.find(a, b, c));
        call();
        check.due("orbit" + told, oracle.orbit(a, b, c), halls.orbit(a, b, c));
    }

    private void run() {
        for (int a : WILD) {
            one(a);
            for (int b : WILD) {
                two(a, b);
                for (int c : WILD) {
                    three(a, b, c);
                }
            }
            group();
        }
    }

    public static void main(String[] args) {
        Check check = new Check();
        for (String[][] state : STATES) {
            new WildTest(check, state, 0).run();
        }
        new WildTest(check, STATES[2], 36).run();
        new WildTest(check, STATES[2], 38).run();
        check.end();
    }
}
