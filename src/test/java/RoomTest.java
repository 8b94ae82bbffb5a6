import java.lang.management.ManagementFactory;

/** A run of 512 calls that makes as much as it can stays far below the room that all calls share. */
public final class RoomTest {
    /** 7.3 million elements of at least 4 bytes are the room; a tenth of it must do. */
    private static final long MOST_BYTES = 2_900_000L;
    private static final String[] FULL_FACES = {
        "x,y+1/2,z+1/2", "x+1/2,y,z+1/2", "z,x,y", "-y,x,z", "-x,-y,-z"
    };

    private static long bytes() {
        return ((com.sun.management.ThreadMXBean) ManagementFactory.getThreadMXBean())
            .getThreadAllocatedBytes(Thread.currentThread().getId());
    }

    /** The SHIFT of the same OPERATION about another corner: t + SHIFT - MATRIX t. */
    private static int about(Xyz op, int[] t) {
        int place = 0;
        for (int row = 0; row < 3; row++) {
            int number = op.shift / (row == 0 ? 576 : row == 1 ? 24 : 1) % 24 + t[row];
            for (int column = 0; column < 3; column++) {
                int digit = op.nine / (int) Math.round(Math.pow(3, 8 - 3 * row - column)) % 3 - 1;
                number -= digit * t[column];
            }
            place = place * 24 + Math.floorMod(number, 24);
        }
        return place;
    }

    public static void main(String[] args) {
        Check check = new Check();
        int[][] chosen = new int[40 * FULL_FACES.length][2];
        for (int i = 0; i < chosen.length; i++) {
            Xyz op = new Xyz(FULL_FACES[i % FULL_FACES.length]);
            int corner = i / FULL_FACES.length;
            chosen[i][0] = op.nine;
            chosen[i][1] = about(op, new int[] {corner % 12, corner / 12, 0});
        }
        long before = bytes();
        GroupHalls halls = new GroupHalls();
        long made = bytes() - before;
        int operations = 0;
        for (int i = 0; i < chosen.length; i++) {
            halls.choose(chosen[i][0], chosen[i][1]);
            if (i % FULL_FACES.length == FULL_FACES.length - 1) {
                int group = halls.group();
                halls.about(group, 5);
                halls.about(group, 6);
                operations += halls.about(group, 0);
            }
        }
        for (int i = 0; i < 50; i++) {
            halls.half(i % 40, i % 3);
            halls.orbit(i % 40, i, i);
            halls.both(i % 40, 39);
        }
        long all = bytes() - before;
        System.out.println("bytes of a new object: " + made + ", of all 512 calls: " + all);
        check.due("OPERATIONS of 40 GROUPS", 40 * 192, operations);
        check.due("all calls make little", true, all < MOST_BYTES);
        check.end();
    }
}
