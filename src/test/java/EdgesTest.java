import java.io.IOException;
import java.util.Arrays;

/**
 * Every sentence of the document that names a boundary, one method for each; a method begins with the
 * sentence's own words, and these are looked up in the document.
 */
public final class EdgesTest {
    private static final int NONE = -1;
    private static final int UNIT = 16484;
    private static final int LOW = Integer.MIN_VALUE;
    private static final int HIGH = Integer.MAX_VALUE;

    private static final String[] CUBE = {"z,x,y", "-y,x,z", "-x,-y,-z"};
    private static final String[] FACES = {
        "x,y+1/2,z+1/2", "x+1/2,y,z+1/2", "z,x,y", "-y,x,z", "-x,-y,-z"
    };
    private static final String[] BOX = {"-x,-y,z", "-x,y,-z", "-x,-y,-z"};
    private static final String[] HALF_SHIFTS = {"x+1/2,y,z", "x,y+1/2,z", "x,y,z+1/2"};
    /** Eight OPERATIONS that cannot all be exchanged; three HALVES; two are in its centre. */
    private static final String[] SQUARE = {"-y,x,z", "-x,y,-z"};

    private final Check check = new Check();
    private final Document document;
    private String words = "";
    private int sentences = 0;

    private EdgesTest() throws IOException {
        document = new Document();
    }

    private void says(String heading, String sentence) {
        words = heading + ": \"" + sentence + "\": ";
        sentences++;
        if (document.isHere()) {
            check.due(words + "stands in the document", true, document.says(heading, sentence));
        }
    }

    private void due(String call, int want, int got) {
        check.due(words + call, want, got);
    }

    private void due(String call, boolean want, boolean got) {
        check.due(words + call, want, got);
    }

    private static String[] joined(String[] one, String... two) {
        String[] all = Arrays.copyOf(one, one.length + two.length);
        System.arraycopy(two, 0, all, one.length, two.length);
        return all;
    }

    // ---- What it is

    private void atMost512Calls() {
        says("What it is", "An object is used for at most 512 calls after it has been made");
        GroupHalls choosing = new GroupHalls();
        for (int call = 1; call <= 511; call++) {
            choosing.choose(call % 2 == 0 ? UNIT : 0, 12);
        }
        due("call 512, group()", 0, choosing.group());
        due("call 513", 2, choosing.about(0, 0));
        GroupHalls grouping = new GroupHalls();
        for (int call = 1; call <= 510; call += 2) {
            grouping.choose(new Xyz("x,y,-z").nine, call / 2 % 24);
            due("call " + (call + 1) + ", group()", call / 2 % 24, grouping.group());
        }
        due("call 511, choose", 1, grouping.choose(UNIT, 0));
        due("call 512, choose", 2, grouping.choose(UNIT, 0));
        GroupHalls asking = new GroupHalls();
        Built.group(asking, FACES);
        for (int call = 7; call <= 512; call++) {
            due("call " + call + ", orbit", 192, asking.orbit(0, Xyz.place(1, 3, 8), -1));
        }
        for (int call = 513; call <= 1200; call++) {
            asking.choose(call, call);
            asking.group();
            asking.half(call % 41, call % 4);
            asking.keepers(call % 41, call);
        }
    }

    // ---- Terms, 1

    private void matrixNumbers() {
        says("Terms", "three rows of three numbers, each -1, 0 or 1");
        GroupHalls halls = new GroupHalls();
        // Powers that are the first to have a 2, -2, 3 or -3: of OPERATIONS of the orders 3 and 6 and of none.
        int[] powers = {1331, 451, 289, 1341, 1116, 1068, 1184, 6961, 1075, 7619};
        for (int nine : powers) {
            due("choose " + nine, 1, halls.choose(nine, 0));
            due("group of " + nine, NONE, halls.group());
        }
        due("nothing was made", NONE, halls.about(0, 0));
        int groups = 0;
        int strange = 0;
        for (int nine = 0; nine <= 19682; nine++) {
            GroupHalls one = new GroupHalls();
            if (one.choose(nine, 0) == 1 && one.group() == 0) {
                groups++;
                strange += sortsOtherThanTold(one);
            }
        }
        due("how many MATRICES alone have a GROUP", 960, groups);
        says("Terms", "(others have none: 0)");
        due("OPERATIONS of a GROUP without a SORT", 0, strange);
    }

    private static int sortsOtherThanTold(GroupHalls halls) {
        int strange = 0;
        for (int k = 0; k < halls.about(0, 0); k++) {
            int sort = Math.abs(halls.of(0, k, 2));
            strange += sort == 1 || sort == 2 || sort == 3 || sort == 4 || sort == 6 ? 0 : 1;
        }
        return strange;
    }

    private void sorts() {
        says("Terms", "1: of trace 3: 1, -1: 2, 0: 3, 1: 4, 2: 6; -1: of trace -3: -1, 1: -2, 0: -3, -1: -4, -2: -6");
        String[] texts = {"x,y,z", "-x,-y,z", "-y,x-y,z", "-y,x,z", "x-y,x,z",
            "-x,-y,-z", "x,y,-z", "y,-x+y,-z", "y,-x,-z", "-x+y,-x,-z"};
        int[] sorts = {1, 2, 3, 4, 6, -1, -2, -3, -4, -6};
        for (int i = 0; i < texts.length; i++) {
            GroupHalls halls = new GroupHalls();
            Built.group(halls, texts[i]);
            due(texts[i], sorts[i], halls.of(0, Built.find(halls, 0, texts[i]), 2));
        }
    }

    private void placesModulo24() {
        says("Terms", "It takes a PLACE, three numbers 0 .. 23, to MATRIX times PLACE plus SHIFT, modulo 24.");
        taken("x+1/24,y,z", Xyz.place(23, 5, 6), Xyz.place(0, 5, 6));
        taken("x+23/24,y+23/24,z+23/24", Xyz.place(23, 23, 23), Xyz.place(22, 22, 22));
        taken("x+23/24,y+23/24,z+23/24", 0, 13823);
        taken("-x,-y,-z", Xyz.place(1, 0, 23), Xyz.place(23, 0, 1));
        taken("-x,-y,-z", Xyz.place(12, 0, 12), Xyz.place(12, 0, 12));
        taken("-x,-y,-z+23/24", Xyz.place(0, 0, 23), 0);
        // The lowest that can be is -69 and the highest is 92.
        taken("y,z,-x-y-z", Xyz.place(23, 23, 23), Xyz.place(23, 23, 3));
        taken("-x-y-z,x,y", Xyz.place(23, 23, 23), Xyz.place(3, 23, 23));
        taken("z,-x-y-z,y", Xyz.place(23, 23, 23), Xyz.place(23, 3, 23));
        taken("-y,-z,x+y+z+23/24", Xyz.place(23, 23, 23), Xyz.place(1, 1, 20));
    }

    private void taken(String text, int place, int to) {
        GroupHalls halls = new GroupHalls();
        int group = Built.group(halls, text);
        int seen = 0;
        for (int k = 0; k < halls.orbit(group, place, -1); k++) {
            seen += halls.orbit(group, place, k) == to ? 1 : 0;
        }
        due(text + " takes " + place + " to " + to, 1, seen);
    }

    private void productsModulo24() {
        says("Terms", "p's MATRIX times q's SHIFT plus p's SHIFT modulo 24");
        product("x+23/24,y,z", "x+1/24,y,z", "x,y,z");
        product("x,y+1/2,z", "x,y+1/2,z", "x,y,z");
        product("x+23/24,y,z", "x+23/24,y,z", "x+22/24,y,z");
        product("-x,-y,-z", "x,y,z+1/24", "-x,-y,-z+23/24");
        product("-x,-y,-z+23/24", "x,y,z+23/24", "-x,-y,-z");
        // The third number is -48 and -54 before it comes round.
        product("y,z,-x-y-z", "x+2/3,y+2/3,z+2/3", "y+2/3,z+2/3,-x-y-z");
        product("y,z,-x-y-z", "x+3/4,y+3/4,z+3/4", "y+3/4,z+3/4,-x-y-z+3/4");
    }

    private void product(String p, String q, String pq) {
        GroupHalls halls = new GroupHalls();
        int group = Built.group(halls, p, q);
        int k = halls.product(group, Built.find(halls, group, p), Built.find(halls, group, q));
        due(p + " times " + q, Built.find(halls, group, pq), k);
        due(p + " times " + q + " is there", true, k >= 0);
    }

    private void secondFirst() {
        says("Terms", "The PRODUCT p q does q first");
        product("-y,x,z+1/4", "-x,y,-z", "-y,-x,-z+1/4");
        product("-x,y,-z", "-y,x,z+1/4", "y,x,-z+3/4");
        product("x,y,-z", "x,y,z+1/4", "x,y,-z+3/4");
        product("x,y,z+1/4", "x,y,-z", "x,y,-z+1/4");
    }

    private void order() {
        says("Terms", "OPERATIONS are in ORDER by their MATRICES, row by row, then by SHIFTS, the lower number first.");
        GroupHalls halls = new GroupHalls();
        Built.group(halls, CUBE);
        String[] rows = {"-x", "-y", "-z", "z", "y", "x"};
        int k = 0;
        for (String one : rows) {
            for (String two : rows) {
                for (String three : rows) {
                    String text = one + "," + two + "," + three;
                    if (text.contains("x") && text.contains("y") && text.contains("z")) {
                        due(text, k, Built.find(halls, 0, text));
                        k++;
                    }
                }
            }
        }
        Built.group(halls, "x-y,x,z");
        String[] six = {"-x,-y,z", "-x+y,-x,z", "-y,x-y,z", "y,-x+y,z", "x-y,x,z", "x,y,z"};
        for (int i = 0; i < six.length; i++) {
            due(six[i], i, Built.find(halls, 1, six[i]));
        }
        says("Terms", "Its OPERATIONS are numbered in their ORDER.");
        Built.group(halls, joined(HALF_SHIFTS, "-x,-y,-z"));
        for (int i = 0; i < 16; i++) {
            due("NINE " + i, i < 8 ? new Xyz("-x,-y,-z").nine : UNIT, halls.of(2, i, 0));
            due("SHIFT " + i, Xyz.place(i / 4 % 2 * 12, i / 2 % 2 * 12, i % 2 * 12), halls.of(2, i, 1));
        }
    }

    private void nineDigits() {
        says("Terms", "the nine lowest digits written with a base of 3, the highest first");
        due("2 1 1, 1 2 1, 1 1 2", UNIT, new GroupHallsWith("x,y,z").nine());
        // Digits 2 1 1, 1 0 1, 1 1 2: the fifth digit is worth 81.
        due("y turned round", UNIT - 2 * 81, new GroupHallsWith("x,-y,z").nine());
        due("x turned round", UNIT - 2 * 6561, new GroupHallsWith("-x,y,z").nine());
        due("z turned round", UNIT - 2, new GroupHallsWith("x,y,-z").nine());
        says("Terms", "three digits with a base of 24, the highest first");
        due("one 24th on x", 576, new GroupHallsWith("-x+1/24,y,z").shift());
        due("one 24th on y", 24, new GroupHallsWith("x,-y+1/24,z").shift());
        due("one 24th on z", 1, new GroupHallsWith("x,y,-z+1/24").shift());
        due("23 on all", 13823, new GroupHallsWith("-x+23/24,-y+23/24,-z+23/24").shift());
    }

    /** A GROUP of at most two OPERATIONS, of which the first is asked; the unit is the last of them. */
    private static final class GroupHallsWith {
        private final GroupHalls halls = new GroupHalls();

        GroupHallsWith(String text) {
            Built.group(halls, text);
        }

        int nine() {
            return halls.of(0, 0, 0);
        }

        int shift() {
            return halls.of(0, 0, 1);
        }
    }

    // ---- Terms, 2

    private void groupOfNone() {
        says("Terms", "(of none: the one that leaves all PLACES)");
        GroupHalls halls = new GroupHalls();
        due("group()", 0, halls.group());
        due("OPERATIONS", 1, halls.about(0, 0));
        due("NINE", UNIT, halls.of(0, 0, 0));
        due("SHIFT", 0, halls.of(0, 0, 1));
        due("of the one that leaves all", 0, Built.group(halls, "x,y,z"));
        int[] want = {1, 1, 1, 0, 1, 1, 0};
        for (int what = 0; what < want.length; what++) {
            due("about(0, " + what + ")", want[what], halls.about(0, what));
        }
    }

    private void noOperation() {
        says("Terms", "none if one of the PRODUCTS is no OPERATION");
        // Each alone has a GROUP; the shortest PRODUCT that is none is of 2, 3, 4, 6 and 7 factors; some
        // would be of a finite order (4, 8, 12, 48) with a few PRODUCTS that are none.
        int[][] pairs = {{8476, 12688}, {3484, 16322}, {16320, 7589}, {6838, 15103}, {7899, 10660}, {16432, 15763}};
        for (int[] pair : pairs) {
            GroupHalls halls = new GroupHalls();
            halls.choose(pair[0], 0);
            due("group of " + pair[0], 0, halls.group());
            halls.choose(pair[1], 0);
            due("group of " + pair[1], 1, halls.group());
            halls.choose(pair[0], 0);
            halls.choose(pair[1], 0);
            due("group of both", NONE, halls.group());
            halls.choose(pair[1], 0);
            halls.choose(pair[0], 0);
            due("group of both, the other first", NONE, halls.group());
            due("no third GROUP", NONE, halls.about(2, 0));
        }
    }

    private void moreThan192() {
        says("Terms", "or there are more than 192");
        String[][] just = {
            FACES, {"x+1/24,y,z", "x,y+1/8,z"}, joined(BOX, "x+1/24,y,z"),
            {"x,y+1/2,z", "x,y,z+1/2", "x+1/2,y,z", "z,x,y", "-x,-y,z", "-x,-y,-z"}
        };
        for (String[] texts : just) {
            GroupHalls halls = new GroupHalls();
            due("192 of " + texts[0], 0, Built.group(halls, texts));
            due("how many", 192, halls.about(0, 0));
            due("the last is the highest", NONE, halls.of(0, 192, 0));
            due("the last but one", true, halls.of(0, 191, 0) != NONE);
        }
        String[][] more = {
            {"x+1/24,y,z", "x,y+1/3,z", "x,y,z+1/3"}, joined(BOX, "x+1/3,y,z", "x,y+1/3,z", "x,y,z+1/3"),
            joined(HALF_SHIFTS, "x+1/8,y,z", "-x,-y,z", "-x,y,-z", "-x,-y,-z"),
            {"x+1/24,y,z", "x,y+1/12,z"}, joined(CUBE, "x+1/2,y,z"), {"x+1/24,y,z", "x,y+1/24,z"},
            {"x+1/24,y,z", "x,y+1/24,z", "x,y,z+1/24"}
        };
        for (String[] texts : more) {
            GroupHalls halls = new GroupHalls();
            due("more than 192 of " + texts[0], NONE, Built.group(halls, texts));
            due("there is none", NONE, halls.about(0, 0));
            due("the next GROUP is the first", 0, halls.group());
        }
    }

    private void numbersOfGroups() {
        says("Terms", "GROUPS are numbered from 0 on as they are first made, 40 at most; equal ones are one.");
        GroupHalls halls = new GroupHalls();
        due("first", 0, Built.group(halls, SQUARE));
        due("none is made by NONE", NONE, Built.group(halls, "x+y,y,z"));
        due("second", 1, halls.half(0, 0));
        due("third", 2, halls.centre(0));
        due("fourth", 3, halls.keepers(0, Xyz.place(1, 3, 8)));
        due("equal to the first, of others", 0, Built.group(halls, "y,x,-z", "y,-x,z", "x,y,z"));
        due("equal to the second", 1, halls.both(0, 1));
        due("equal to the third", 2, Built.group(halls, "-x,-y,z"));
        due("equal to the third, centre", 2, halls.centre(2));
        due("equal to the fourth", 3, halls.group());
        due("equal to the fourth, half", 3, halls.half(2, 0));
        due("equal to the first, keepers", 0, halls.keepers(0, 0));
        due("fifth", 4, Built.group(halls, "-x,-y,z+1/2"));
        Built.filled(halls, 39);
        due("39 are", NONE, halls.about(39, 0));
        due("the 40th", 39, Built.group(halls, "-x,-y,-z"));
        due("the 41st", NONE, Built.group(halls, "-x,-y,-z+1/2"));
        due("GROUP 40", NONE, halls.about(40, 0));
        due("the 40th again", 39, Built.group(halls, "-x,-y,-z"));
        due("the first again", 0, Built.group(halls, SQUARE));
    }

    private void matricesAndCentrings() {
        says("Terms", "Its MATRICES are the different ones.");
        GroupHalls halls = new GroupHalls();
        Built.group(halls, FACES);
        due("of 192 OPERATIONS", 48, halls.about(0, 1));
        Built.group(halls, "x+1/24,y,z");
        due("of SHIFTS alone", 1, halls.about(1, 1));
        Built.group(halls, "-y,x,z+1/24");
        due("of a screw of 24 turns", 4, halls.about(2, 1));
        says("Terms", "CENTRINGS: OPERATIONS with the MATRIX of the one that leaves all.");
        due("of F", 4, halls.about(0, 2));
        due("of SHIFTS alone", 24, halls.about(1, 2));
        due("of a screw of 24 turns", 6, halls.about(2, 2));
        due("of none", 1, halls.about(halls.group(), 2));
    }

    private void letters() {
        says("Terms", "0 P: one CENTRING; by the SHIFTS of the others: 1 A 0 12 12; 2 B 12 0 12; 3 C 12 12 0; 4 I 12 12 12;");
        letter(0, "x,y,z");
        letter(0, "-x,-y,-z");
        letter(1, "x,y+1/2,z+1/2");
        letter(2, "x+1/2,y,z+1/2");
        letter(3, "x+1/2,y+1/2,z");
        letter(4, "x+1/2,y+1/2,z+1/2");
        letter(4, joined(CUBE, "x+1/2,y+1/2,z+1/2"));
        says("Terms", "5 F all of A, B, C; 6 obverse 8 16 16, 16 8 8; 7 reverse 8 16 8, 16 8 16; 8 others.");
        letter(5, FACES);
        letter(5, "x+1/2,y+1/2,z", "x,y+1/2,z+1/2");
        letter(6, "x+1/3,y+2/3,z+2/3");
        letter(6, "x+2/3,y+1/3,z+1/3", "-y,x-y,z");
        letter(7, "x+1/3,y+2/3,z+1/3");
        letter(7, "x+2/3,y+1/3,z+2/3", "-y,x-y,z");
        for (String[] others : new String[][] {
            {"x+1/2,y,z"}, {"x,y+1/2,z"}, {"x,y,z+1/2"}, {"x+1/3,y+1/3,z+1/3"}, {"x+1/3,y+1/3,z+2/3"},
            {"x+1/3,y,z"}, {"x+1/3,y+2/3,z"}, {"x+1/4,y+1/2,z+3/4"}, {"x,y+1/2,z+1/2", "x+1/2,y,z"},
            {"x+1/2,y,z+1/2", "x,y+1/2,z"}, {"x+1/2,y+1/2,z", "x,y,z+1/2"}, {"x+1/2,y,z", "x,y+1/2,z"},
            HALF_SHIFTS, {"x+1/4,y+1/4,z", "x,y+1/2,z+1/2"}, {"x,y+1/2,z+1/2", "x+1/3,y+2/3,z+2/3"},
            {"x+1/24,y,z", "x,y+1/8,z"}
        }) {
            letter(8, others);
        }
    }

    private void letter(int letter, String... texts) {
        GroupHalls halls = new GroupHalls();
        due(String.join("; ", texts), letter, halls.about(Built.group(halls, texts), 3));
    }

    private void classes() {
        says("Terms", "Its CLASS, by how many MATRICES of the SORTS 2, 3, 4, 6, -1, -2, -3, -4, -6 there are");
        // The first and the last, one OPERATION and 192, and those that share numbers of MATRICES.
        classOf(1, "x+1/24,y,z", "x,y+1/8,z");
        classOf(2, "-x+1/2,-y,-z");
        classOf(3, "y,x,-z");
        classOf(4, "y,x,z+1/2");
        classOf(5, "x,-y+1/2,z+1/2", "-x,-y,-z");
        classOf(6, "-x+1/2,-y,z+1/2", "-x,y+1/2,-z+1/2");
        classOf(7, "-x,-y,z+1/2", "y,x,z");
        classOf(9, "x,-z,y");
        classOf(10, "-x,z,-y");
        classOf(12, joined(SQUARE, "x+1/2,y+1/2,z+1/2"));
        classOf(14, "y,-x,-z", "y,x,z");
        classOf(16, "z,x,y");
        classOf(17, "-z,-x,-y");
        classOf(18, "z,x,y", "-y,-x,-z");
        classOf(19, "z,x,y", "y,x,z");
        classOf(20, "z,x,y", "y,x,z", "-x,-y,-z");
        classOf(18, "-y,x-y,z", "-y,-x,-z");
        classOf(22, "-x+y,-x,-z");
        classOf(28, "z,x,y", "-x+1/2,-y,z+1/2");
        classOf(31, "y,x,z", "y,z,-x-y-z");
        classOf(32, "y,x,z", "y,z,-x-y-z", "-x,-y,-z");
        classOf(32, FACES);
        says("Terms", "(The rest of each row is 0.)");
        classOf(3, "-x,-y,z");
        classOf(5, "-x,-y,z", "-x,-y,-z");
        classOf(21, "x-y,x,z");
        classOf(23, "x-y,x,z", "-x,-y,-z");
    }

    private void rowsOfClasses() {
        for (int number = 1; number <= 32; number++) {
            String row = Oracle.CLASSES[number - 1];
            says("Terms", " " + number + ": " + (row.isEmpty() ? "none" : row) + ".");
            String[] texts = Built.CLASSES[number - 1];
            GroupHalls halls = new GroupHalls();
            Built.group(halls, texts);
            due("the SORTS are so", true, (row + " 0 0 0 0 0 0 0 0 0").trim().startsWith(sortsOf(halls)));
            due("SITE of the corner", number, halls.orbit(0, 0, -3));
            classOf(number, texts);
            // With a CENTRING more there are twice as many OPERATIONS, but no more MATRICES.
            classOf(number, joined(texts, number >= 16 && number <= 27 ? "x,y,z+1/2" : "x+1/2,y+1/2,z+1/2"));
        }
    }

    /** How many OPERATIONS of each of the nine SORTS there are in GROUP 0. */
    private static String sortsOf(GroupHalls halls) {
        StringBuilder row = new StringBuilder();
        for (int sort : new int[] {2, 3, 4, 6, -1, -2, -3, -4, -6}) {
            int count = 0;
            for (int k = 0; k < halls.about(0, 0); k++) {
                count += halls.of(0, k, 2) == sort ? 1 : 0;
            }
            row.append(row.length() == 0 ? "" : " ").append(count);
        }
        return row.toString();
    }

    private void classOf(int number, String... texts) {
        GroupHalls halls = new GroupHalls();
        due(String.join("; ", texts), number, halls.about(Built.group(halls, texts), 4));
    }

    private void alike() {
        says("Terms", "Two OPERATIONS a, b of it are ALIKE if there is a c in it with c a = b c.");
        GroupHalls halls = new GroupHalls();
        Built.group(halls, SQUARE);
        due("the twofold axes", 2, halls.of(0, Built.find(halls, 0, "-x,y,-z"), 4));
        due("the axes between them", 2, halls.of(0, Built.find(halls, 0, "y,x,-z"), 4));
        due("a fourfold turn", 2, halls.of(0, Built.find(halls, 0, "-y,x,z"), 4));
        due("their square", 1, halls.of(0, Built.find(halls, 0, "-x,-y,z"), 4));
        due("sets", 5, halls.about(0, 5));
        // The c must be in the GROUP: without the twofold axes a turn is not ALIKE to its opposite.
        Built.group(halls, "-y,x,z");
        due("a fourfold turn alone", 1, halls.of(1, Built.find(halls, 1, "-y,x,z"), 4));
        due("sets of it", 4, halls.about(1, 5));
        Built.group(halls, "x+1/24,y,z", "-x,y,z");
        due("a SHIFT and its opposite", 2, halls.of(2, Built.find(halls, 2, "x+1/24,y,z"), 4));
        due("half an edge is its own opposite", 1, halls.of(2, Built.find(halls, 2, "x+1/2,y,z"), 4));
        due("mirrors at even heights", 12, halls.of(2, Built.find(halls, 2, "-x,y,z"), 4));
        due("sets of 48", 15, halls.about(2, 5));
        Built.group(halls, FACES);
        int shares = 0;
        for (int k = 0; k < 192; k++) {
            shares += 192 / Math.max(1, halls.of(3, k, 4));
        }
        due("the shares of 192 in their sets", 192 * halls.about(3, 5), shares);
        // What the last GROUP was must not tell on the one that is asked.
        GroupHalls late = new GroupHalls();
        Built.group(late, SQUARE);
        Built.group(late, "-y,x,z");
        Built.group(late, CUBE);
        due("sets, asked after others", 5, late.about(0, 5));
        due("sets of four, asked after others", 4, late.about(1, 5));
        due("HALVES, asked after others", 3, late.about(0, 6));
        due("sets of the last", 10, late.about(2, 5));
    }

    private void halves() {
        says("Terms", "The HALVES of a GROUP are the GROUPS of half as many OPERATIONS within it");
        halvesOf(0, "x,y,z");
        halvesOf(1, "-x,-y,-z");
        halvesOf(0, "-y,x-y,z");
        halvesOf(0, "x+1/3,y,z", "x,y+1/3,z", "x,y,z+1/3");
        // Twelve OPERATIONS, yet no six of them are a GROUP.
        halvesOf(0, "z,x,y", "-x,-y,z");
        halvesOf(1, "z,x,y", "-y,x,z");
        halvesOf(1, "x+1/24,y,z");
        halvesOf(3, CUBE);
        halvesOf(7, BOX);
        halvesOf(63, joined(BOX, HALF_SHIFTS));
        halvesOf(31, joined(HALF_SHIFTS, "-x,-y,z", "-x,y,-z"));
    }

    private void halvesOf(int count, String... texts) {
        GroupHalls halls = new GroupHalls();
        int group = Built.group(halls, texts);
        String told = String.join("; ", texts);
        due(told, count, halls.about(group, 6));
        due("past the last of " + told, NONE, halls.half(group, count));
        for (int k = 0; k < Math.min(count, 39); k++) {
            int half = halls.half(group, k);
            due("OPERATIONS of HALF " + k + " of " + told, halls.about(group, 0), 2 * halls.about(half, 0));
            due("HALF " + k + " is within " + told, true, halls.within(half, group));
        }
    }

    private void orderOfHalves() {
        says("Terms", "of two, the one that has the first OPERATION which only one of them has comes first");
        GroupHalls halls = new GroupHalls();
        int group = Built.group(halls, joined(HALF_SHIFTS, "-x,-y,-z"));
        int before = NONE;
        for (int k = 0; k < 15; k++) {
            int half = halls.half(group, k);
            if (before != NONE) {
                due("HALF " + k + " comes after the one before", true, firstDiffers(halls, group, before, half));
            }
            before = half;
        }
        // -x,-y,-z is the first of all; the last HALF has none of the first OPERATIONS, the CENTRINGS alone.
        due("the first has the first", 0, Built.find(halls, halls.half(group, 0), "-x,-y,-z"));
        due("MATRICES of the last", 1, halls.about(halls.half(group, 14), 1));
    }

    /** Whether the first OPERATION that only one of two has is in the first of them. */
    private static boolean firstDiffers(GroupHalls halls, int group, int one, int two) {
        for (int k = 0; k < halls.about(group, 0); k++) {
            int nine = halls.of(group, k, 0);
            int shift = halls.of(group, k, 1);
            boolean inOne = halls.find(one, nine, shift) != NONE;
            boolean inTwo = halls.find(two, nine, shift) != NONE;
            if (inOne != inTwo) {
                return inOne;
            }
        }
        return false;
    }

    private void orbitsOrder() {
        says("Terms", "all that the OPERATIONS take it to, lowest first (by their first numbers, then the second ones, then the third)");
        GroupHalls halls = new GroupHalls();
        Built.group(halls, HALF_SHIFTS);
        for (int k = 0; k < 8; k++) {
            due("PLACE " + k, Xyz.place(k / 4 * 12 + 11, k / 2 % 2 * 12, k % 2 * 12 + 1),
                halls.orbit(0, Xyz.place(23, 0, 1), k));
        }
        Built.group(halls, "z,x,y");
        due("lowest first number", Xyz.place(0, 23, 1), halls.orbit(1, Xyz.place(1, 0, 23), 0));
        due("then", Xyz.place(1, 0, 23), halls.orbit(1, Xyz.place(1, 0, 23), 1));
        due("highest first number", Xyz.place(23, 1, 0), halls.orbit(1, Xyz.place(1, 0, 23), 2));
        due("a PLACE reached often is one", 1, halls.orbit(1, Xyz.place(7, 7, 7), -1));
    }

    private void keepersOfPlaces() {
        says("Terms", "Its KEEPERS: the OPERATIONS that leave it; its SITE is the CLASS of their MATRICES.");
        GroupHalls halls = new GroupHalls();
        Built.group(halls, "-x,y,z");
        due("on the mirror", 2, halls.orbit(0, Xyz.place(0, 5, 7), -2));
        due("on the mirror, modulo 24", 2, halls.orbit(0, Xyz.place(12, 5, 7), -2));
        due("beside it", 1, halls.orbit(0, Xyz.place(11, 5, 7), -2));
        due("beside it, below the edge", 1, halls.orbit(0, Xyz.place(23, 5, 7), -2));
        due("SITE on it", 4, halls.orbit(0, Xyz.place(12, 5, 7), -3));
        due("SITE beside it", 1, halls.orbit(0, Xyz.place(13, 5, 7), -3));
        Built.group(halls, "-x+1/24,y,z");
        int kept = 0;
        for (int x = 0; x < 24; x++) {
            kept += halls.orbit(1, Xyz.place(x, 0, 0), -2);
        }
        due("a mirror between the PLACES keeps none", 24, kept);
        Built.group(halls, "x,y,-z+23/24", "x+1/2,y+1/2,z");
        due("a CENTRING keeps none", 1, halls.orbit(2, 0, -2));
        Built.group(halls, FACES);
        due("SITE of 32 within 192", 32, halls.orbit(3, 0, -3));
        due("KEEPERS of it", 48, halls.orbit(3, 0, -2));
    }

    // ---- Promises

    private void promise1() {
        says("Promise 1:", "No GROUPS; nothing is chosen.");
        GroupHalls halls = new GroupHalls();
        due("about", NONE, halls.about(0, 0));
        due("of", NONE, halls.of(0, 0, 0));
        due("product", NONE, halls.product(0, 0, 0));
        due("find", NONE, halls.find(0, UNIT, 0));
        due("half", NONE, halls.half(0, 0));
        due("both", NONE, halls.both(0, 0));
        due("centre", NONE, halls.centre(0));
        due("within", false, halls.within(0, 0));
        due("orbit", NONE, halls.orbit(0, 0, -1));
        due("keepers", NONE, halls.keepers(0, 0));
        due("the first that is chosen", 1, halls.choose(UNIT, 1));
        GroupHalls other = new GroupHalls();
        due("another object's first GROUP", 0, other.group());
        due("is of nothing", 1, other.about(0, 0));
        due("and leaves this one alone", NONE, halls.about(0, 0));
    }

    private void chooseCounts() {
        says("Promise 2:", "An OPERATION more is chosen for the next GROUP: how many are.");
        GroupHalls halls = new GroupHalls();
        due("one", 1, Built.choose(halls, "-x,-y,z"));
        due("the same counts again", 2, Built.choose(halls, "-x,-y,z"));
        due("the unit counts", 3, Built.choose(halls, "x,y,z"));
        due("group", 0, halls.group());
        due("of the chosen ones alone", 2, halls.about(0, 0));
        due("one for the next", 1, Built.choose(halls, "-x,-y,-z"));
        halls.half(0, 0);
        halls.both(0, 0);
        halls.centre(0);
        halls.keepers(0, 1);
        halls.about(0, 5);
        halls.about(0, 6);
        halls.of(0, 0, 4);
        halls.orbit(0, 0, 0);
        halls.find(0, UNIT, 0);
        halls.product(0, 0, 0);
        halls.within(0, 0);
        due("other calls leave it chosen", 2, Built.choose(halls, "x,y,z"));
        due("group of these", 2, halls.about(halls.group(), 0));
        due("is the inversion's", 2, halls.about(2, 4));
    }

    private void chooseWhenTenAre() {
        says("Promise 2:", "NONE, refused, when 10 are");
        GroupHalls halls = new GroupHalls();
        for (int i = 1; i <= 9; i++) {
            due("choose " + i, i, halls.choose(UNIT, 12));
        }
        due("choose 10", 10, halls.choose(UNIT, 12 * 24));
        due("choose 11", NONE, halls.choose(UNIT, 12 * 576));
        due("choose 12, one that is chosen", NONE, halls.choose(UNIT, 12));
        due("choose 13, wrong in all", NONE, halls.choose(-1, -1));
        due("group", 0, halls.group());
        due("the tenth is in it", true, halls.find(0, UNIT, 12 * 24) != NONE);
        due("the eleventh is not", NONE, halls.find(0, UNIT, 12 * 576));
        due("how many", 4, halls.about(0, 0));
        due("then one is", 1, halls.choose(UNIT, 12));
    }

    private void chooseWrongNine() {
        says("Promise 2:", "NINE isn't 0 .. 19,682");
        GroupHalls halls = new GroupHalls();
        // 30 and 19,652 are the first and the last with a determinant of 1 or -1.
        due("the first OPERATION", 1, halls.choose(30, 0));
        due("the last OPERATION", 2, halls.choose(19652, 0));
        int[] wrong = {-1, 19683, 19683 + UNIT, UNIT - 19683, -UNIT, LOW, HIGH, UNIT + (1 << 23), LOW + UNIT};
        for (int nine : wrong) {
            due("choose(" + nine + ", 0)", NONE, halls.choose(nine, 0));
        }
        due("the refused do not count", 3, halls.choose(UNIT, 0));
    }

    private void chooseWrongPlace() {
        says("Promise 2:", "place not 0 .. 13,823");
        GroupHalls halls = new GroupHalls();
        due("the first PLACE", 1, halls.choose(UNIT, 0));
        due("the last PLACE", 2, halls.choose(UNIT, 13823));
        for (int place : new int[] {-1, 13824, -13824, 2 * 13824, LOW, HIGH}) {
            due("choose(UNIT, " + place + ")", NONE, halls.choose(UNIT, place));
        }
        due("the refused do not count", 3, halls.choose(UNIT, 0));
        due("group", 0, halls.group());
        due("SHIFT 23 23 23 goes round", 24, halls.about(0, 0));
    }

    private void chooseWrongDeterminant() {
        says("Promise 2:", "or the determinant isn't 1 or -1");
        GroupHalls halls = new GroupHalls();
        int[] wrong = {0, 29, 19653, 19682, 9841, 33, 19637, 45, 19649, 142, 19536, 146, 19540, 60, 19610, 72, 19622};
        for (int nine : wrong) {
            due("choose(" + nine + ", 0)", NONE, halls.choose(nine, 0));
        }
        due("nothing is chosen", 1, halls.choose(UNIT, 0));
        int taken = 0;
        for (int nine = 0; nine <= 19682; nine++) {
            taken += new GroupHalls().choose(nine, 13823) == 1 ? 1 : 0;
        }
        due("how many MATRICES there are", 6960, taken);
    }

    private void groupLeavesNothingChosen() {
        says("Promise 3:", "(none are chosen then)");
        GroupHalls halls = new GroupHalls();
        Built.group(halls, "-x,-y,-z");
        due("after a GROUP", 1, halls.choose(UNIT, 0));
        due("the unit's", 1, halls.group());
        due("after NONE", NONE, Built.group(halls, "-x,-y,z", "x+y,y,z", "-x,y,-z"));
        due("group of nothing", 1, halls.group());
        Built.choose(halls, "x+1/24,y,z", "x,y+1/24,z", "x,y,z", "x,y,z", "x,y,z", "x,y,z", "x,y,z", "x,y,z", "x,y,z",
            "x,y,z");
        due("ten, too many OPERATIONS", NONE, halls.group());
        due("after ten", 1, halls.choose(UNIT, 0));
        GroupHalls all = Built.filled(Built.MOST, "x,y,z");
        due("the 41st", NONE, Built.group(all, "-x,-y,-z"));
        due("after the 41st", 1, Built.choose(all, "x,y,z"));
        due("a known one", 0, all.group());
        due("after a known one", 1, Built.choose(all, "x,y,z"));
    }

    private void groupOrNone() {
        says("Promise 3:", "NONE: there is none, or it is a new one and there are 40.");
        GroupHalls halls = Built.filled(39, "x,y,z");
        due("there is none, of 39", NONE, Built.group(halls, "x+y,y,z"));
        due("the 40th", 39, Built.group(halls, "-x,-y,-z"));
        due("a new one", NONE, Built.group(halls, "-x,-y,z"));
        due("a known one of two", 39, Built.group(halls, "-x,-y,-z"));
        due("a known one of nothing", 0, halls.group());
        due("there is none, of 40", NONE, Built.group(halls, "x+y,y,z"));
        due("GROUP 39 stays", 2, halls.about(39, 4));
        due("GROUP 40", NONE, halls.about(40, 0));
    }

    private void promise4() {
        says("Promise 4:", "NONE when there is none such, or for another what.");
        GroupHalls halls = new GroupHalls();
        Built.group(halls, FACES);
        int[] want = {192, 48, 4, 5, 32};
        for (int what = 0; what < want.length; what++) {
            due("about(0, " + what + ")", want[what], halls.about(0, what));
        }
        for (int group : new int[] {-1, 1, 39, 40, 41, LOW, HIGH}) {
            for (int what = 0; what <= 6; what++) {
                due("about(" + group + ", " + what + ")", NONE, halls.about(group, what));
            }
        }
        for (int what : new int[] {-1, -2, 7, 8, LOW, HIGH}) {
            due("about(0, " + what + ")", NONE, halls.about(0, what));
        }
        GroupHalls all = Built.filled(Built.MOST, "x,y,z");
        due("the last of 40", 2, all.about(39, 0));
        due("past the last of 40", NONE, all.about(40, 0));
    }

    private void ofTurns() {
        says("Promise 5:", "how often it is done until all PLACES are left (3)");
        turns(1, "x,y,z");
        turns(2, "x+1/2,y,z");
        turns(24, "x+23/24,y,z");
        turns(12, "x+1/3,y+1/4,z");
        turns(2, "-x,-y,-z+1/24");
        turns(24, "-y,x,z+1/24");
        turns(48, "y+1/24,x,z");
        // No OPERATION needs more: a third of a turn about the diagonal, three times 24.
        turns(72, "z+1/24,x,y");
        turns(6, "-z,-x,-y+1/24");
    }

    private void turns(int turns, String text) {
        GroupHalls halls = new GroupHalls();
        int group = Built.group(halls, text);
        due(text, turns, halls.of(group, Built.find(halls, group, text), 3));
        due("as many OPERATIONS of " + text, turns, halls.about(group, 0));
    }

    private void ofAlike() {
        says("Promise 5:", "how many are ALIKE to it, itself too (4)");
        GroupHalls halls = new GroupHalls();
        due("the unit alone", 1, halls.of(halls.group(), 0, 4));
        Built.group(halls, CUBE);
        due("m-3m, the unit", 1, halls.of(1, 47, 4));
        due("m-3m, a threefold turn", 8, halls.of(1, Built.find(halls, 1, "z,x,y"), 4));
    }

    private void ofNoneSuch() {
        says("Promise 5:", "NONE when there is none such. (A SORT may be -1, too.)");
        GroupHalls halls = new GroupHalls();
        Built.group(halls, "-x,-y,-z");
        due("a SORT of -1", -1, halls.of(0, 0, 2));
        due("its SHIFT", 0, halls.of(0, 0, 1));
        due("the last", UNIT, halls.of(0, 1, 0));
        for (int what = 0; what <= 4; what++) {
            for (int k : new int[] {-1, 2, 192, LOW, HIGH}) {
                due("of(0, " + k + ", " + what + ")", NONE, halls.of(0, k, what));
            }
            for (int group : new int[] {-1, 1, 40, LOW, HIGH}) {
                due("of(" + group + ", 0, " + what + ")", NONE, halls.of(group, 0, what));
            }
        }
        for (int what : new int[] {-1, 5, LOW, HIGH}) {
            due("of(0, 0, " + what + ")", NONE, halls.of(0, 0, what));
            due("of(0, 1, " + what + ")", NONE, halls.of(0, 1, what));
        }
        Built.group(halls, FACES);
        due("the last of 192", UNIT, halls.of(1, 191, 0));
        due("past the last of 192", NONE, halls.of(1, 192, 0));
    }

    private void promise6() {
        says("Promise 6:", "NONE when there are none such.");
        GroupHalls halls = new GroupHalls();
        Built.group(halls, SQUARE);
        due("the last by the last", 7, halls.product(0, 7, 7));
        due("the first by the last", 0, halls.product(0, 0, 7));
        due("the last by the first", 0, halls.product(0, 7, 0));
        for (int wrong : new int[] {-1, 8, 192, LOW, HIGH}) {
            due("product(0, " + wrong + ", 0)", NONE, halls.product(0, wrong, 0));
            due("product(0, 0, " + wrong + ")", NONE, halls.product(0, 0, wrong));
            due("product(0, " + wrong + ", " + wrong + ")", NONE, halls.product(0, wrong, wrong));
        }
        for (int group : new int[] {-1, 1, 40, LOW, HIGH}) {
            due("product(" + group + ", 0, 0)", NONE, halls.product(group, 0, 0));
        }
    }

    private void promise7() {
        says("Promise 7:", "NONE when there are none such.");
        GroupHalls halls = new GroupHalls();
        Built.group(halls, "x+23/24,y+23/24,z+23/24");
        due("the first", 0, halls.find(0, UNIT, 0));
        due("the last", 23, halls.find(0, UNIT, 13823));
        due("another SHIFT, lower", NONE, halls.find(0, UNIT, 1));
        due("another SHIFT, higher", NONE, halls.find(0, UNIT, 13822));
        // Each of these has the number inside that an OPERATION of the GROUP could have.
        due("PLACE 13,824 with the MATRIX before", NONE, halls.find(0, UNIT - 1, 13824));
        due("PLACE -1 with the MATRIX after", NONE, halls.find(0, UNIT + 1, -1));
        due("PLACE -13,824 with the MATRIX after", NONE, halls.find(0, UNIT + 1, -13824));
        due("NINE that comes round", NONE, halls.find(0, UNIT + (1 << 23), 0));
        for (int nine : new int[] {-1, 0, 19682, 19683, UNIT - 19683, UNIT + 19683, UNIT - 1, UNIT + 1, LOW, HIGH}) {
            due("find(0, " + nine + ", 0)", NONE, halls.find(0, nine, 0));
        }
        for (int place : new int[] {-1, 13824, LOW, HIGH}) {
            due("find(0, UNIT, " + place + ")", NONE, halls.find(0, UNIT, place));
        }
        for (int group : new int[] {-1, 1, 40, LOW, HIGH}) {
            due("find(" + group + ", UNIT, 0)", NONE, halls.find(group, UNIT, 0));
        }
    }

    private void promise8() {
        says("Promise 8:", "NONE when there is none such, or it is a new one and there are 40.");
        GroupHalls halls = Built.filled(39, SQUARE);
        for (int k : new int[] {-1, 3, LOW, HIGH}) {
            due("half(0, " + k + ")", NONE, halls.half(0, k));
        }
        for (int group : new int[] {-1, 39, 40, LOW, HIGH}) {
            due("half(" + group + ", 0)", NONE, halls.half(group, 0));
        }
        due("the 40th", 39, halls.half(0, 2));
        due("a new one", NONE, halls.half(0, 0));
        due("another new one", NONE, halls.half(0, 1));
        due("a known one", 39, halls.half(0, 2));
        due("how many HALVES, still", 3, halls.about(0, 6));
        due("GROUP 40", NONE, halls.about(40, 0));
        due("GROUP 39 has four", 4, halls.about(39, 0));
    }

    private void promise9() {
        says("Promise 9:", "NONE when there are no such GROUPS, or it is a new one and there are 40.");
        GroupHalls halls = new GroupHalls();
        Built.group(halls, "-x,-y,z", "-x,y,-z");
        Built.group(halls, "-y,x,z", "-x,-y,-z");
        Built.filled(halls, 39);
        for (int group : new int[] {-1, 39, 40, LOW, HIGH}) {
            due("both(" + group + ", 0)", NONE, halls.both(group, 0));
            due("both(0, " + group + ")", NONE, halls.both(0, group));
            due("both(" + group + ", " + group + ")", NONE, halls.both(group, group));
        }
        due("the 40th: the unit", 39, halls.both(2, 3));
        due("a new one", NONE, halls.both(0, 1));
        due("a new one, the other way", NONE, halls.both(1, 0));
        due("a known one", 39, halls.both(0, 39));
        due("one with itself", 0, halls.both(0, 0));
        due("the 40th with itself", 39, halls.both(39, 39));
        due("GROUP 40", NONE, halls.about(40, 0));
    }

    private void promise10() {
        says("Promise 10:", "NONE when there is no such GROUP, or it is a new one and there are 40.");
        GroupHalls halls = new GroupHalls();
        Built.group(halls, SQUARE);
        Built.group(halls, CUBE);
        Built.filled(halls, 39);
        for (int group : new int[] {-1, 39, 40, LOW, HIGH}) {
            due("centre(" + group + ")", NONE, halls.centre(group));
        }
        due("the 40th", 39, halls.centre(1));
        due("its CLASS", 2, halls.about(39, 4));
        due("a new one", NONE, halls.centre(0));
        due("a known one", 39, halls.centre(1));
        due("all are in it", 39, halls.centre(39));
        due("GROUP 40", NONE, halls.about(40, 0));
        GroupHalls one = new GroupHalls();
        due("of the unit alone", 0, one.centre(one.group()));
    }

    private void promise11() {
        says("Promise 11:", "False when there are no such ones.");
        GroupHalls halls = new GroupHalls();
        halls.group();
        for (int group : new int[] {-1, 1, 39, 40, LOW, HIGH}) {
            due("within(" + group + ", 0)", false, halls.within(group, 0));
            due("within(0, " + group + ")", false, halls.within(0, group));
            due("within(" + group + ", " + group + ")", false, halls.within(group, group));
        }
        due("within(0, 0)", true, halls.within(0, 0));
        GroupHalls all = Built.filled(Built.MOST, "x,y,z");
        due("the unit in the last of 40", true, all.within(0, 39));
        due("the last of 40 in the unit", false, all.within(39, 0));
        due("the last of 40 in GROUP 40", false, all.within(39, 40));
        // Only the first, or only the last OPERATION but the unit is missing.
        GroupHalls some = new GroupHalls();
        Built.group(some, BOX);
        Built.group(some, "-x,-y,z", "-x,y,-z");
        Built.group(some, "-x,-y,-z");
        Built.group(some, "-x,y,z");
        due("222 in mmm", true, some.within(1, 0));
        due("mmm in 222", false, some.within(0, 1));
        due("-1 in 222", false, some.within(2, 1));
        due("m in 222", false, some.within(3, 1));
        due("of equal size", false, some.within(2, 3));
    }

    private void promise12() {
        says("Promise 12:", "NONE when there is no such GROUP or PLACE, or none such.");
        GroupHalls halls = new GroupHalls();
        halls.group();
        due("of the unit, how many", 1, halls.orbit(0, 13823, -1));
        due("of the unit, PLACE 0", 13823, halls.orbit(0, 13823, 0));
        due("of the unit, PLACE 1", NONE, halls.orbit(0, 13823, 1));
        due("PLACE 0 may be 0", 0, halls.orbit(0, 0, 0));
        Built.group(halls, FACES);
        int place = Xyz.place(1, 3, 8);
        due("how many", 192, halls.orbit(1, place, -1));
        due("KEEPERS", 1, halls.orbit(1, place, -2));
        due("SITE", 1, halls.orbit(1, place, -3));
        due("PLACE 191", Xyz.place(23, 21, 16), halls.orbit(1, place, 191));
        for (int what : new int[] {-4, -5, 192, LOW, HIGH}) {
            due("orbit(1, place, " + what + ")", NONE, halls.orbit(1, place, what));
        }
        for (int what = -3; what <= 0; what++) {
            for (int wrong : new int[] {-1, 13824, LOW, HIGH}) {
                due("orbit(1, " + wrong + ", " + what + ")", NONE, halls.orbit(1, wrong, what));
            }
            for (int group : new int[] {-1, 2, 40, LOW, HIGH}) {
                due("orbit(" + group + ", 0, " + what + ")", NONE, halls.orbit(group, 0, what));
            }
        }
        due("PLACE 4 of four", NONE, halls.orbit(1, 0, 4));
        due("PLACE 3 of four", Xyz.place(12, 12, 0), halls.orbit(1, 0, 3));
    }

    private void promise13() {
        says("Promise 13:", "NONE when there is no such GROUP or PLACE, or it is a new one and there are 40.");
        GroupHalls halls = Built.filled(39, SQUARE);
        for (int place : new int[] {-1, 13824, LOW, HIGH}) {
            due("keepers(0, " + place + ")", NONE, halls.keepers(0, place));
        }
        for (int group : new int[] {-1, 39, 40, LOW, HIGH}) {
            due("keepers(" + group + ", 0)", NONE, halls.keepers(group, 0));
        }
        due("the 40th", 39, halls.keepers(0, 13823));
        due("is the unit's", 1, halls.about(39, 0));
        due("a new one", NONE, halls.keepers(0, 5));
        due("a known one: all", 0, halls.keepers(0, 0));
        due("a known one: the unit", 39, halls.keepers(0, Xyz.place(1, 3, 8)));
        due("GROUP 40", NONE, halls.about(40, 0));
    }

    private void terms() {
        atMost512Calls();
        matrixNumbers();
        sorts();
        placesModulo24();
        productsModulo24();
        secondFirst();
        order();
        nineDigits();
        groupOfNone();
        noOperation();
        moreThan192();
        numbersOfGroups();
        matricesAndCentrings();
        letters();
        classes();
        rowsOfClasses();
        alike();
        halves();
        orderOfHalves();
        orbitsOrder();
        keepersOfPlaces();
    }

    private void promises() {
        promise1();
        chooseCounts();
        chooseWhenTenAre();
        chooseWrongNine();
        chooseWrongPlace();
        chooseWrongDeterminant();
        groupLeavesNothingChosen();
        groupOrNone();
        promise4();
        ofTurns();
        ofAlike();
        ofNoneSuch();
        promise6();
        promise7();
        promise8();
        promise9();
        promise10();
        promise11();
        promise12();
        promise13();
    }

    public static void main(String[] args) throws IOException {
        EdgesTest test = new EdgesTest();
        test.terms();
        test.promises();
        System.out.println(test.sentences + " sentences of the document"
            + (test.document.isHere() ? "" : ", which is not here: their words were not looked up"));
        test.check.end();
    }
}
