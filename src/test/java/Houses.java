/** What several tests begin with. */
final class Houses {
    static final int LEAST = Integer.MIN_VALUE, GREATEST = Integer.MAX_VALUE;
    static final int ALL_THINGS = 4095;

    private static final int MOST_AT_ONCE = 600;

    private Houses() {
    }

    /** A room with the thing 1 at first, in which the puzzle k (1 minute, prop k) needs what the one ahead gives. */
    static void chainOfEight(House x) {
        int room = x.room(2);
        for (int k = 0; k < 8; k++) {
            x.puzzle(room, 2 << k, k < 7 ? 4 << k : 1, k, 1);
        }
    }

    /** A room with the thing 1 at first, and one puzzle that gives the way out and takes so many minutes. */
    static void oneStep(House x, int minutes) {
        int room = x.room(2);
        x.puzzle(room, 2, 1, KeylessHall.NONE, minutes);
    }

    /** The puzzles 0 to count - 1, by rising numbers. */
    static void solveFirst(House x, int group, int count) {
        for (int k = 0; k < count; k++) {
            x.solve(group, k);
        }
    }

    static void passTo(House x, int minute) {
        for (int now = x.minute(); now < minute;) {
            now = x.pass(Math.min(MOST_AT_ONCE, minute - now));
        }
    }
}
