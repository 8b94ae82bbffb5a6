/** Objects and GROUPS as the tests need them. */
final class Built {
    static final int MOST = 40;

    /** OPERATIONS without SHIFTS whose GROUPS have the CLASSES 1 .. 32. */
    static final String[][] CLASSES = {
        {}, {"-x,-y,-z"}, {"-x,y,-z"}, {"x,-y,z"}, {"-x,y,-z", "-x,-y,-z"},
        {"-x,-y,z", "-x,y,-z"}, {"-x,-y,z", "x,-y,z"}, {"-x,-y,z", "-x,y,-z", "-x,-y,-z"},
        {"-y,x,z"}, {"y,-x,-z"}, {"-y,x,z", "-x,-y,-z"}, {"-y,x,z", "-x,y,-z"}, {"-y,x,z", "x,-y,z"},
        {"y,-x,-z", "-x,y,-z"}, {"-y,x,z", "-x,y,-z", "-x,-y,-z"},
        {"-y,x-y,z"}, {"-y,x-y,z", "-x,-y,-z"}, {"-y,x-y,z", "y,x,-z"}, {"-y,x-y,z", "-y,-x,z"},
        {"-y,x-y,z", "y,x,-z", "-x,-y,-z"},
        {"x-y,x,z"}, {"-y,x-y,z", "x,y,-z"}, {"x-y,x,z", "-x,-y,-z"}, {"x-y,x,z", "y,x,-z"},
        {"x-y,x,z", "-y,-x,z"}, {"-y,x-y,z", "x,y,-z", "-y,-x,z"}, {"x-y,x,z", "y,x,-z", "-x,-y,-z"},
        {"z,x,y", "-x,-y,z"}, {"z,x,y", "-x,-y,z", "-x,-y,-z"}, {"z,x,y", "-y,x,z"},
        {"z,x,y", "y,-x,-z"}, {"z,x,y", "-y,x,z", "-x,-y,-z"}
    };

    private static final String[] MIRRORS = {"x,y,-z", "x,-y,z", "-x,y,z"};
    private static final int[] STEPS = {1, 24, 576};

    private Built() {
    }

    /** The number of the GROUP of these OPERATIONS. */
    static int group(GroupHalls halls, String... texts) {
        choose(halls, texts);
        return halls.group();
    }

    /** What the last choose answered. */
    static int choose(GroupHalls halls, String... texts) {
        int answer = 0;
        for (String text : texts) {
            Xyz op = new Xyz(text);
            answer = halls.choose(op.nine, op.shift);
        }
        return answer;
    }

    static int find(GroupHalls halls, int group, String text) {
        Xyz op = new Xyz(text);
        return halls.find(group, op.nine, op.shift);
    }

    /** Makes GROUPS of one mirror each, at different heights, until there are so many GROUPS. */
    static GroupHalls filled(GroupHalls halls, int groups) {
        for (int i = 0; i < 72; i++) {
            if (halls.about(groups - 1, 0) != GroupHalls.NONE) {
                return halls;
            }
            halls.choose(new Xyz(MIRRORS[i / 24]).nine, i % 24 * STEPS[i / 24]);
            halls.group();
        }
        throw new IllegalStateException("there are not so many GROUPS");
    }

    /** GROUP 0 of these OPERATIONS, and GROUPS of one mirror each up to so many in all. */
    static GroupHalls filled(int groups, String... texts) {
        GroupHalls halls = new GroupHalls();
        group(halls, texts);
        return filled(halls, groups);
    }
}
