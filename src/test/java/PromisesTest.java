/** Each promise by hand: ordinary inputs, the edges that the document names, and wrong inputs. */
public final class PromisesTest {
    private static final int NONE = -1;
    private static final int UNIT = 16484;
    private static final int LOW = Integer.MIN_VALUE;
    private static final int HIGH = Integer.MAX_VALUE;

    private static final int[] CLASS_SIZES = {
        1, 2, 2, 2, 4, 4, 4, 8, 4, 4, 8, 8, 8, 8, 16, 3, 6, 6, 6, 12, 6, 6, 12, 12, 12, 12, 24,
        12, 24, 24, 24, 48
    };

    private static final String[] FULL_CUBE = {"z,x,y", "-y,x,z", "-x,-y,-z"};
    private static final String[] FULL_FACES = {
        "x,y+1/2,z+1/2", "x+1/2,y,z+1/2", "z,x,y", "-y,x,z", "-x,-y,-z"
    };

    private final Check check = new Check();

    private void due(String call, int want, int got) {
        check.due(call, want, got);
    }

    private void promise1() {
        GroupHalls halls = new GroupHalls();
        due("NONE", -1, GroupHalls.NONE);
        due("new: about(0, 0)", NONE, halls.about(0, 0));
        due("new: of(0, 0, 0)", NONE, halls.of(0, 0, 0));
        due("new: half(0, 0)", NONE, halls.half(0, 0));
        check.due("new: within(0, 0)", false, halls.within(0, 0));
        due("new: group() of nothing", 0, halls.group());
        due("new: its OPERATIONS", 1, halls.about(0, 0));
        due("another object has none", NONE, new GroupHalls().about(0, 0));
    }

    private void promise2() {
        GroupHalls halls = new GroupHalls();
        due("choose below NINE", NONE, halls.choose(-1, 0));
        due("choose above NINE", NONE, halls.choose(19683, 0));
        due("choose with a tenth digit", NONE, halls.choose(19683 + UNIT, 0));
        due("choose at LOW", NONE, halls.choose(LOW, 0));
        due("choose at HIGH", NONE, halls.choose(HIGH, 0));
        due("choose below PLACE", NONE, halls.choose(UNIT, -1));
        due("choose above PLACE", NONE, halls.choose(UNIT, 13824));
        due("choose at LOW PLACE", NONE, halls.choose(UNIT, LOW));
        due("choose at HIGH PLACE", NONE, halls.choose(UNIT, HIGH));
        due("choose determinant 0", NONE, halls.choose(0, 0));
        due("choose determinant 0 at the end", NONE, halls.choose(19682, 0));
        due("choose determinant 4", NONE, halls.choose(new Xyz("x+y+z,-x+y+z,-x-y+z").nine, 0));
        due("choose determinant 2", NONE, halls.choose(new Xyz("x+y,-x+y,z").nine, 0));
        due("choose determinant -2", NONE, halls.choose(new Xyz("x+y,-x+y,-z").nine, 0));
        for (int i = 1; i <= 10; i++) {
            due("choose once more", i, halls.choose(UNIT, i == 10 ? 13823 : 12));
        }
        due("choose the eleventh", NONE, halls.choose(UNIT, 0));
        due("the refused do not count", 48, halls.about(halls.group(), 0));
        due("choose after group()", 1, halls.choose(new Xyz("-x,-y,-z").nine, 0));
    }

    private void promise3() {
        GroupHalls halls = new GroupHalls();
        due("group of an infinite order", NONE, Built.group(halls, "x+y,y,z"));
        due("group with a 2 in a square", NONE, Built.group(halls, "x-z,x+y,x-y-z"));
        due("none are chosen after NONE", 0, halls.group());
        due("exactly 192", 1, Built.group(halls, "x+1/24,y,z", "x,y+1/8,z"));
        due("192 it is", 192, halls.about(1, 0));
        due("216, the next that could be", NONE, Built.group(halls, "x+1/24,y,z", "x,y+1/3,z", "x,y,z+1/3"));
        due("288", NONE, Built.group(halls, "x+1/24,y,z", "x,y+1/12,z"));
        due("384", NONE, Built.group(halls, "x+1/2,y,z", "z,x,y", "-y,x,z", "-x,-y,-z"));
        due("13824", NONE, Built.group(halls, "x+1/24,y,z", "x,y+1/24,z", "x,y,z+1/24"));
        due("Fm-3m", 2, Built.group(halls, FULL_FACES));
        due("Fm-3m has 192", 192, halls.about(2, 0));
        due("equal ones are one", 2, Built.group(halls, "x+1/2,y+1/2,z", "-z,x,-y", "y,-x,z", "x,y+1/2,z+1/2",
            "-x,-y,-z"));
        due("the unit chosen", 0, Built.group(halls, "x,y,z", "x,y,z"));
        due("one of two axes", 3, Built.group(halls, "-x,-y,z"));
        due("a screw is another", 4, Built.group(halls, "-x,-y,z+1/2"));
        GroupHalls all = Built.filled(Built.MOST, "x,y,z");
        due("the 40th", 2, all.about(39, 0));
        due("41st", NONE, Built.group(all, "-x,-y,-z"));
        due("none are chosen after the 41st", 0, all.group());
        due("a known one when there are 40", 1, Built.group(all, "x,y,-z"));
        due("no GROUP 40", NONE, all.about(40, 0));
    }

    private void promise4() {
        for (int i = 0; i < Built.CLASSES.length; i++) {
            GroupHalls halls = new GroupHalls();
            Built.group(halls, Built.CLASSES[i]);
            due("CLASS " + (i + 1), i + 1, halls.about(0, 4));
            due("OPERATIONS of CLASS " + (i + 1), CLASS_SIZES[i], halls.about(0, 0));
            due("MATRICES of CLASS " + (i + 1), CLASS_SIZES[i], halls.about(0, 1));
            due("LETTER P of CLASS " + (i + 1), 0, halls.about(0, 3));
        }
        String[][] letters = {
            {}, {"x,y+1/2,z+1/2"}, {"x+1/2,y,z+1/2"}, {"x+1/2,y+1/2,z"}, {"x+1/2,y+1/2,z+1/2"},
            {"x,y+1/2,z+1/2", "x+1/2,y,z+1/2"}, {"x+2/3,y+1/3,z+1/3"}, {"x+1/3,y+2/3,z+1/3"},
            {"x+1/2,y,z"}
        };
        int[] centrings = {1, 2, 2, 2, 2, 4, 3, 3, 2};
        for (int i = 0; i < letters.length; i++) {
            GroupHalls halls = new GroupHalls();
            Built.group(halls, letters[i]);
            due("LETTER " + i, i, halls.about(0, 3));
            due("CENTRINGS of LETTER " + i, centrings[i], halls.about(0, 2));
            due("MATRICES of LETTER " + i, 1, halls.about(0, 1));
        }
        String[][] others = {
            {"x+1/3,y+1/3,z+1/3"}, {"x+1/4,y+1/4,z+1/4"}, {"x+1/2,y,z", "x,y+1/2,z"},
            {"x,y+1/2,z+1/2", "x+1/2,y,z"}, {"x,y+1/2,z+1/2", "x+1/2,y,z+1/2", "x+1/2,y,z"},
            {"x+1/3,y+2/3,z+1/3", "x+1/2,y+1/2,z+1/2"}, {"x,y,z+1/3"}, {"x+1/3,y,z+1/3"}
        };
        for (String[] other : others) {
            GroupHalls halls = new GroupHalls();
            Built.group(halls, other);
            due("other LETTER of " + other[0], 8, halls.about(0, 3));
        }
        aboutSets();
    }

    private void aboutSets() {
        GroupHalls halls = new GroupHalls();
        Built.group(halls, FULL_CUBE);
        due("m-3m sets of ALIKE", 10, halls.about(0, 5));
        due("m-3m HALVES", 3, halls.about(0, 6));
        Built.group(halls, FULL_FACES);
        due("Fm-3m MATRICES", 48, halls.about(1, 1));
        due("Fm-3m CENTRINGS", 4, halls.about(1, 2));
        due("Fm-3m LETTER", 5, halls.about(1, 3));
        due("Fm-3m CLASS", 32, halls.about(1, 4));
        Built.group(halls, "-x,-y,z", "-x,y,-z", "-x,-y,-z", "x+1/2,y,z", "x,y+1/2,z", "x,y,z+1/2");
        due("all of order 2: sets", 64, halls.about(2, 5));
        due("all of order 2: HALVES", 63, halls.about(2, 6));
        Built.group(halls, "-y,x,z");
        due("4: sets", 4, halls.about(3, 5));
        due("4: HALVES", 1, halls.about(3, 6));
        Built.group(halls, "-y,x-y,z");
        due("3: HALVES", 0, halls.about(4, 6));
        Built.group(halls, "-y,x,z", "-x,y,-z");
        due("422: sets", 5, halls.about(5, 5));
        due("422: HALVES", 3, halls.about(5, 6));
        for (int what : new int[] {-1, 7, LOW, HIGH}) {
            due("about(0, " + what + ")", NONE, halls.about(0, what));
        }
        for (int group : new int[] {-1, 6, 40, LOW, HIGH}) {
            due("about(" + group + ", 0)", NONE, halls.about(group, 0));
        }
    }

    private void promise5() {
        GroupHalls halls = new GroupHalls();
        Built.group(halls, "-x,-y,z+1/2", "-x,-y,-z");
        String[] order = {"-x,-y,-z", "-x,-y,z+1/2", "x,y,-z+1/2", "x,y,z"};
        int[] sorts = {-1, 2, -2, 1};
        int[] turns = {2, 2, 2, 1};
        for (int k = 0; k < 4; k++) {
            Xyz op = new Xyz(order[k]);
            due("NINE of " + order[k], op.nine, halls.of(0, k, 0));
            due("SHIFT of " + order[k], op.shift, halls.of(0, k, 1));
            due("SORT of " + order[k], sorts[k], halls.of(0, k, 2));
            due("turns of " + order[k], turns[k], halls.of(0, k, 3));
            due("ALIKE of " + order[k], 1, halls.of(0, k, 4));
        }
        due("of(0, 4, 0)", NONE, halls.of(0, 4, 0));
        due("of(0, -1, 0)", NONE, halls.of(0, -1, 0));
        due("of(0, 0, 5)", NONE, halls.of(0, 0, 5));
        due("of(0, 0, -1)", NONE, halls.of(0, 0, -1));
        due("of(1, 0, 0)", NONE, halls.of(1, 0, 0));
        due("of(-1, 0, 0)", NONE, halls.of(-1, 0, 0));
        due("of(0, LOW, 0)", NONE, halls.of(0, LOW, 0));
        due("of(0, HIGH, 3)", NONE, halls.of(0, HIGH, 3));
        sortsAndTurns("-y,x,z+1/4", 4, 4);
        sortsAndTurns("-y,x,z+1/24", 4, 24);
        sortsAndTurns("-y,x-y,z+1/24", 3, 24);
        sortsAndTurns("x-y,x,z+1/6", 6, 6);
        sortsAndTurns("y,-x,-z", -4, 4);
        sortsAndTurns("y,-x+y,-z", -3, 6);
        sortsAndTurns("-x+y,-x,-z", -6, 6);
        sortsAndTurns("x+1/24,y,z", 1, 24);
        sortsAndTurns("x,-y,z+1/8", -2, 8);
        Built.group(halls, FULL_CUBE);
        Xyz four = new Xyz("-y,x,z");
        due("ALIKE to a fourfold axis", 6, halls.of(1, halls.find(1, four.nine, 0), 4));
        due("ALIKE to the inversion", 1, halls.of(1, halls.find(1, new Xyz("-x,-y,-z").nine, 0), 4));
        due("ALIKE to a threefold axis", 8, halls.of(1, halls.find(1, new Xyz("z,x,y").nine, 0), 4));
    }

    private void sortsAndTurns(String text, int sort, int turns) {
        GroupHalls halls = new GroupHalls();
        Built.group(halls, text);
        Xyz op = new Xyz(text);
        int k = halls.find(0, op.nine, op.shift);
        due("SORT of " + text, sort, halls.of(0, k, 2));
        due("turns of " + text, turns, halls.of(0, k, 3));
    }

    private void promise6() {
        GroupHalls halls = new GroupHalls();
        Built.group(halls, "-y,x,z+1/4", "-x,y,-z");
        Xyz p = new Xyz("-y,x,z+1/4");
        Xyz q = new Xyz("-x,y,-z");
        Xyz pq = new Xyz("-y,-x,-z+1/4");
        Xyz qp = new Xyz("y,x,-z+3/4");
        int i = halls.find(0, p.nine, p.shift);
        int j = halls.find(0, q.nine, q.shift);
        due("p q does q first", halls.find(0, pq.nine, pq.shift), halls.product(0, i, j));
        due("q p does p first", halls.find(0, qp.nine, qp.shift), halls.product(0, j, i));
        check.due("they differ", true, halls.product(0, i, j) >= 0
            && halls.product(0, i, j) != halls.product(0, j, i));
        int n = halls.about(0, 0);
        for (int bad : new int[] {-1, n, LOW, HIGH}) {
            due("product(0, bad, 0)", NONE, halls.product(0, bad, 0));
            due("product(0, 0, bad)", NONE, halls.product(0, 0, bad));
            due("product(bad, 0, 0)", NONE, halls.product(bad, 0, 0));
        }
    }

    private void promise7() {
        GroupHalls halls = new GroupHalls();
        Built.group(halls, "x+1/24,y,z", "x,y+1/8,z");
        for (int k = 0; k < 192; k++) {
            due("find " + k, k, halls.find(0, halls.of(0, k, 0), halls.of(0, k, 1)));
        }
        due("find another SHIFT", NONE, halls.find(0, UNIT, 1));
        due("find another MATRIX", NONE, halls.find(0, UNIT + 1, 0));
        due("find no OPERATION", NONE, halls.find(0, 0, 0));
        due("find above NINE", NONE, halls.find(0, 19683, 0));
        due("find below NINE", NONE, halls.find(0, -1, 0));
        due("find where 32 bits come round", NONE, halls.find(0, UNIT + (1 << 23), 0));
        due("find above PLACE", NONE, halls.find(0, UNIT - 1, 13824));
        due("find below PLACE", NONE, halls.find(0, UNIT + 1, -13824));
        due("find far below PLACE", NONE, halls.find(0, UNIT, LOW));
        due("find far above NINE", NONE, halls.find(0, HIGH, 0));
        due("find in no GROUP", NONE, halls.find(1, UNIT, 0));
        due("find in GROUP -1", NONE, halls.find(-1, UNIT, 0));
    }

    private void promise8() {
        GroupHalls halls = new GroupHalls();
        Built.group(halls, "-x,-y,z", "-x,y,-z");
        // In ORDER: -x,-y,z; -x,y,-z; x,-y,-z; x,y,z.
        due("half(0, 0)", 1, halls.half(0, 0));
        due("it has -x,-y,z", 0, halls.find(1, new Xyz("-x,-y,z").nine, 0));
        due("half(0, 2)", 2, halls.half(0, 2));
        due("it has x,-y,-z", 0, halls.find(2, new Xyz("x,-y,-z").nine, 0));
        due("half(0, 1)", 3, halls.half(0, 1));
        due("it has -x,y,-z", 0, halls.find(3, new Xyz("-x,y,-z").nine, 0));
        due("half(0, 0) again", 1, halls.half(0, 0));
        due("half of a half", 4, halls.half(3, 0));
        due("half(0, 3)", NONE, halls.half(0, 3));
        due("half(0, -1)", NONE, halls.half(0, -1));
        due("half(0, LOW)", NONE, halls.half(0, LOW));
        due("half(0, HIGH)", NONE, halls.half(0, HIGH));
        due("half of one OPERATION", NONE, halls.half(4, 0));
        due("half(5, 0)", NONE, halls.half(5, 0));
        due("half(-1, 0)", NONE, halls.half(-1, 0));
        int cube = Built.group(halls, FULL_CUBE);
        int[] classes = {halls.about(halls.half(cube, 0), 4), halls.about(halls.half(cube, 1), 4),
            halls.about(halls.half(cube, 2), 4)};
        // -x,-y,-z comes first and is in m-3 alone; then -x,-z,-y, a twofold axis, is in 432.
        due("first HALF of m-3m", 29, classes[0]);
        due("second HALF of m-3m", 30, classes[1]);
        due("third HALF of m-3m", 31, classes[2]);
        fullHalf();
    }

    private void fullHalf() {
        GroupHalls halls = new GroupHalls();
        Built.group(halls, "-x,-y,z", "-x,y,-z", "-x,-y,-z", "x+1/2,y,z", "x,y+1/2,z", "x,y,z+1/2");
        for (int k = 0; k < 39; k++) {
            due("HALF " + k, k + 1, halls.half(0, k));
        }
        due("HALF as GROUP 40", NONE, halls.half(0, 39));
        due("a known HALF then", 5, halls.half(0, 4));
        due("no HALF 63", NONE, halls.half(0, 63));
    }

    private void promise9() {
        GroupHalls halls = new GroupHalls();
        int four = Built.group(halls, "-y,x,z", "-x,-y,-z");
        int two = Built.group(halls, "-x,-y,z", "-x,y,-z");
        int both = halls.both(four, two);
        due("both of 4/m and 222", 2, both);
        due("both: OPERATIONS", 2, halls.about(both, 0));
        due("both: its axis", 0, halls.find(both, new Xyz("-x,-y,z").nine, 0));
        due("both the other way", both, halls.both(two, four));
        due("both of one", four, halls.both(four, four));
        due("both with a part", both, halls.both(both, two));
        int screw = Built.group(halls, "-x,-y,z+1/2");
        due("both of axis and screw: the unit", 4, halls.both(screw, both));
        due("the unit", 1, halls.about(4, 0));
        due("both(0, 5)", NONE, halls.both(0, 5));
        due("both(5, 0)", NONE, halls.both(5, 0));
        due("both(-1, 0)", NONE, halls.both(-1, 0));
        due("both(0, LOW)", NONE, halls.both(0, LOW));
        GroupHalls all = Built.filled(Built.MOST, "x,y,z");
        due("both, known, when there are 40", 0, all.both(1, 2));
        GroupHalls most = new GroupHalls();
        Built.group(most, "-x,-y,z", "-x,y,-z");
        Built.group(most, "-x,-y,z", "-x,-y,-z");
        for (int i = 0; i < 38; i++) {
            most.choose(new Xyz("-x,y,z").nine, 576 * (i % 24));
            most.choose(new Xyz("x,-y,z").nine, i < 24 ? 0 : 24);
            most.group();
        }
        due("most has 40", 4, most.about(39, 0));
        due("both as GROUP 40", NONE, most.both(0, 1));
    }

    private void promise10() {
        GroupHalls halls = new GroupHalls();
        Built.group(halls, FULL_CUBE);
        due("centre of m-3m", 1, halls.centre(0));
        due("is CLASS", 2, halls.about(1, 4));
        due("centre of an abelian one", 1, halls.centre(1));
        Built.group(halls, "-y,x,z", "-x,y,-z");
        due("centre of 422", 3, halls.centre(2));
        due("is the twofold axis", 0, halls.find(3, new Xyz("-x,-y,z").nine, 0));
        Built.group(halls, "-y,x-y,z", "y,x,-z");
        due("centre of 32", 5, halls.centre(4));
        due("is the unit", 1, halls.about(5, 0));
        Built.group(halls, "-x,-y,-z", "x+1/4,y,z");
        due("centre with a CENTRING", 7, halls.centre(6));
        due("has the CENTRING of half an edge", 1, halls.find(7, UNIT, Xyz.place(12, 0, 0)));
        due("centre(8)", NONE, halls.centre(8));
        due("centre(-1)", NONE, halls.centre(-1));
        due("centre(HIGH)", NONE, halls.centre(HIGH));
        GroupHalls most = Built.filled(Built.MOST, "-y,x,z", "-x,y,-z");
        due("centre as GROUP 40", NONE, most.centre(0));
        due("centre, known, when there are 40", 1, most.centre(1));
    }

    private void promise11() {
        GroupHalls halls = new GroupHalls();
        Built.group(halls, "-y,x,z");
        Built.group(halls, "-x,-y,z");
        Built.group(halls, "-x,y,-z");
        halls.group();
        check.due("2 within 4", true, halls.within(1, 0));
        check.due("4 within 2", false, halls.within(0, 1));
        check.due("2 within another 2", false, halls.within(1, 2));
        check.due("4 within 4", true, halls.within(0, 0));
        check.due("1 within 2", true, halls.within(3, 2));
        check.due("2 within 1", false, halls.within(2, 3));
        check.due("within(0, 4)", false, halls.within(0, 4));
        check.due("within(4, 0)", false, halls.within(4, 0));
        check.due("within(-1, -1)", false, halls.within(-1, -1));
        check.due("within(HIGH, LOW)", false, halls.within(HIGH, LOW));
    }

    private void promise12() {
        GroupHalls halls = new GroupHalls();
        Built.group(halls, "-y,x,z", "-x,y,-z");
        int[] orbit = {Xyz.place(1, 0, 5), Xyz.place(0, 1, 5), Xyz.place(23, 0, 5), Xyz.place(0, 23, 5),
            Xyz.place(1, 0, 19), Xyz.place(0, 1, 19), Xyz.place(23, 0, 19), Xyz.place(0, 23, 19)};
        java.util.Arrays.sort(orbit);
        int place = Xyz.place(1, 0, 5);
        due("how many", 8, halls.orbit(0, place, -1));
        due("KEEPERS", 1, halls.orbit(0, place, -2));
        due("SITE", 1, halls.orbit(0, place, -3));
        for (int k = 0; k < 8; k++) {
            due("PLACE " + k, orbit[k], halls.orbit(0, place, k));
        }
        due("PLACE 8", NONE, halls.orbit(0, place, 8));
        due("what -4", NONE, halls.orbit(0, place, -4));
        due("what LOW", NONE, halls.orbit(0, place, LOW));
        due("what HIGH", NONE, halls.orbit(0, place, HIGH));
        due("on the axis", 2, halls.orbit(0, 5, -1));
        due("KEEPERS on the axis", 4, halls.orbit(0, 5, -2));
        due("SITE on the axis", 9, halls.orbit(0, 5, -3));
        due("SITE at the corner", 12, halls.orbit(0, 0, -3));
        due("SITE in the middle", 12, halls.orbit(0, Xyz.place("1/2,1/2,1/2"), -3));
        due("SITE at 1/2,0,0", 6, halls.orbit(0, Xyz.place("1/2,0,0"), -3));
        due("last PLACE", Xyz.place(23, 23, 23), halls.orbit(0, 13823, 7));
        due("above PLACE", NONE, halls.orbit(0, 13824, -1));
        due("below PLACE", NONE, halls.orbit(0, -1, -1));
        due("GROUP 1", NONE, halls.orbit(1, 0, -1));
        due("GROUP -1", NONE, halls.orbit(-1, 0, 0));
        GroupHalls skew = new GroupHalls();
        Built.group(skew, "y,z,-x-y-z");
        due("a row of three -1", 4, skew.orbit(0, Xyz.place(23, 23, 22), -1));
        due("its lowest", Xyz.place(4, 23, 23), skew.orbit(0, Xyz.place(23, 23, 22), 0));
        Built.group(halls, FULL_FACES);
        due("Fm-3m somewhere", 192, halls.orbit(1, Xyz.place(1, 3, 8), -1));
        due("Fm-3m last of it", Xyz.place(23, 21, 16), halls.orbit(1, Xyz.place(1, 3, 8), 191));
        due("Fm-3m at the corner", 4, halls.orbit(1, 0, -1));
        due("Fm-3m KEEPERS of the corner", 48, halls.orbit(1, 0, -2));
        due("Fm-3m SITE of 1/4,1/4,1/4", 31, halls.orbit(1, Xyz.place("1/4,1/4,1/4"), -3));
        due("orbits make no GROUPS", NONE, halls.about(2, 0));
    }

    private void promise13() {
        GroupHalls halls = new GroupHalls();
        Built.group(halls, FULL_FACES);
        int keepers = halls.keepers(0, Xyz.place("1/4,1/4,1/4"));
        due("keepers of 1/4,1/4,1/4", 1, keepers);
        due("their CLASS", 31, halls.about(1, 4));
        due("their number", 24, halls.about(1, 0));
        Xyz axis = new Xyz("-x+1/2,-y+1/2,z");
        check.due("they turn about it", true, halls.find(1, axis.nine, axis.shift) >= 0);
        due("keepers again", 1, halls.keepers(0, Xyz.place("1/4,1/4,1/4")));
        due("keepers of the corner", 2, halls.keepers(0, 0));
        due("keepers of the middle, the same modulo 24", 2, halls.keepers(0, Xyz.place("1/2,1/2,1/2")));
        due("keepers of somewhere", 3, halls.keepers(0, Xyz.place(1, 3, 8)));
        due("the unit", 1, halls.about(3, 0));
        due("above PLACE", NONE, halls.keepers(0, 13824));
        due("below PLACE", NONE, halls.keepers(0, -1));
        due("LOW PLACE", NONE, halls.keepers(0, LOW));
        due("GROUP 4", NONE, halls.keepers(4, 0));
        due("GROUP -1", NONE, halls.keepers(-1, 0));
        GroupHalls most = Built.filled(Built.MOST, "-y,x,z", "-x,y,-z");
        due("keepers as GROUP 40", NONE, most.keepers(0, 5));
        due("keepers, known, when there are 40", 0, most.keepers(0, 0));
    }

    public static void main(String[] args) {
        PromisesTest test = new PromisesTest();
        test.promise1();
        test.promise2();
        test.promise3();
        test.promise4();
        test.promise5();
        test.promise6();
        test.promise7();
        test.promise8();
        test.promise9();
        test.promise10();
        test.promise11();
        test.promise12();
        test.promise13();
        test.check.end();
    }
}
