/** Promises 9 to 12, 21, and what hangs on a group's hour in 18 and 20. */
public final class GroupsTest {
    private static final int NONE = KeylessHall.NONE;

    private GroupsTest() {
    }

    public static void main(String[] args) {
        come();
        comeRefusals();
        thirtyGroups();
        comeIntoOpenRoom();
        comeBehindForgotten();
        forgottenWayOut();
        solve();
        solveRefusals();
        hints();
        leastWay();
        longestWay();
        hintsThatCostTheHour();
        hintRefusals();
        giveUp();
        theHour();
        freed();
        groupRefusals();
        Due.end("GroupsTest");
    }

    /** Room 0 with 2 at first: 0 needs 2, gives 4; 1 needs 4, gives 8; 2 needs 8, gives the way out. */
    private static Hall chain() {
        Hall x = new Hall();
        x.room(2);
        x.puzzle(0, 2, 4, 0, 1);
        x.puzzle(0, 4, 8, 1, 2);
        x.puzzle(0, 8, 1, 2, 3);
        return x;
    }

    private static void groupIs(Hall x, int group, int how, int held, int solved, int left) {
        Due.is("how group " + group + " is", how, x.group(group, 0));
        Due.is("what group " + group + " holds", held, x.group(group, 2));
        Due.is("what group " + group + " solved", solved, x.group(group, 3));
        Due.is("minutes left to group " + group, left, x.group(group, 4));
    }

    private static void come() {
        Hall x = chain();
        x.room(4094);
        x.puzzle(1, 2, 1, NONE, 1);
        x.pass(7);
        Due.is("come(1)", 0, x.come(1));
        Due.is("come(0)", 1, x.come(0));
        groupIs(x, 0, KeylessHall.PLAYS, 4094, 0, 60);
        groupIs(x, 1, KeylessHall.PLAYS, 2, 0, 60);
        Due.is("the room of group 0", 1, x.group(0, 1));
        Due.is("the room of group 1", 0, x.group(1, 1));
        Due.is("hints of group 0", 0, x.group(0, 5));
        Due.is("room 0 is PLAYED", KeylessHall.PLAYED, x.state(0, 0));
        Due.is("the group of room 0", 1, x.state(0, 3));
        Due.is("the group of room 1", 0, x.state(1, 3));
    }

    private static void comeRefusals() {
        Hall x = chain();
        Due.noSuch("come(-1)", () -> x.come(-1));
        Due.noSuch("come(1)", () -> x.come(1));
        x.prop(1, true);
        Due.notNow("come into a room that cannot be left", () -> x.come(0));
        x.prop(1, false);
        x.come(0);
        Due.notNow("come while PLAYED", () -> x.come(0));
        x.giveUp(0);
        Due.notNow("come while DIRTY", () -> x.come(0));
        x.reset(0, 0, true);
        Due.notNow("come while RESETTING", () -> x.come(0));
        x.pass(5);
        Due.is("come when READY", 1, x.come(0));
        x.room(1);
        Due.notNow("come into a room without puzzles", () -> x.come(1));
    }

    private static void thirtyGroups() {
        Hall x = chain();
        for (int k = 0; k < 30; k++) {
            Due.is("group", k, x.come(0));
            x.giveUp(k);
            x.reset(0, 0, false);
        }
        Due.notNow("a group 30", () -> x.come(0));
        Due.is("the room stays READY", KeylessHall.READY, x.state(0, 0));
        Due.noSuch("no group 30", () -> x.group(30, 0));
        Due.is("group 29", KeylessHall.LOST, x.group(29, 0));
    }

    private static void comeIntoOpenRoom() {
        Hall x = new Hall();
        x.room(3);
        x.puzzle(0, 2, 4, NONE, 1);
        x.book(0, 0);
        Due.is("come into a room that is open", 0, x.come(0));
        groupIs(x, 0, KeylessHall.WON, 3, 0, 0);
        Due.is("it is DIRTY at once", KeylessHall.DIRTY, x.state(0, 0));
        Due.is("nothing is to be reset", 0, x.state(0, 1));
        Due.is("its group is out", NONE, x.state(0, 3));
        Due.is("the booking was USED", KeylessHall.USED, x.booking(0, 2));
        Due.is("by the group", 0, x.booking(0, 3));
    }

    private static void comeBehindForgotten() {
        Hall x = chain();
        x.come(0);
        x.solve(0, 0);
        x.solve(0, 1);
        x.giveUp(0);
        x.reset(0, 1, false);
        Due.is("forget 1", 1, x.forget(1));
        x.pass(1);
        x.prop(1, true);
        Due.notNow("what was forgotten does not let a room be left", () -> x.come(0));
        x.prop(1, false);
        x.come(0);
        groupIs(x, 1, KeylessHall.PLAYS, 10, 2, 60);
        Due.notNow("what was forgotten counts as solved", () -> x.solve(1, 1));
        Due.is("what is to be reset while PLAYED", 0, x.state(0, 1));
        Due.is("the way behind it", 2, x.hint(1));
        x.giveUp(1);
        Due.is("what counts as solved is to be reset", 2, x.state(0, 1));
        // Nobody of group 1 solved it, but it counted so: it is still solved for the next group.
        x.reset(0, 0, false);
        Due.is("forget 1 again", 1, x.forget(0));
        x.come(0);
        groupIs(x, 2, KeylessHall.PLAYS, 10, 2, 60);
    }

    private static void forgottenWayOut() {
        Hall x = new Hall();
        x.room(2);
        x.puzzle(0, 2, 1, NONE, 4);
        x.come(0);
        x.solve(0, 0);
        x.reset(0, 0, false);
        x.forget(0);
        Due.is("come with the way out forgotten", 1, x.come(0));
        groupIs(x, 1, KeylessHall.WON, 3, 1, 0);
        Due.is("the room is DIRTY", KeylessHall.DIRTY, x.state(0, 0));
        Due.is("it is to be reset again", 1, x.state(0, 1));
        Due.is("it was forgotten last", 1, x.state(0, 2));
    }

    private static void solve() {
        Hall x = chain();
        x.puzzle(0, 0, 2, NONE, 1);
        x.come(0);
        Due.is("solve 0", 6, x.solve(0, 0));
        Due.is("solve one that gives nothing new", 6, x.solve(0, 3));
        Due.is("solve 1", 14, x.solve(0, 1));
        groupIs(x, 0, KeylessHall.PLAYS, 14, 11, 60);
        Due.is("solve 2", 15, x.solve(0, 2));
        groupIs(x, 0, KeylessHall.WON, 15, 15, 0);
        Due.is("DIRTY", KeylessHall.DIRTY, x.state(0, 0));
        Due.is("to be reset", 15, x.state(0, 1));
        Due.is("no group", NONE, x.state(0, 3));
    }

    private static void solveRefusals() {
        Hall x = chain();
        Due.noSuch("solve of no group", () -> x.solve(0, 0));
        x.come(0);
        Due.noSuch("solve of group 1", () -> x.solve(1, 0));
        Due.noSuch("solve of group -1", () -> x.solve(-1, 0));
        Due.noSuch("solve puzzle 3", () -> x.solve(0, 3));
        Due.noSuch("solve puzzle -1", () -> x.solve(0, -1));
        Due.notNow("solve what it does not hold the things for", () -> x.solve(0, 1));
        x.solve(0, 0);
        Due.notNow("solve again", () -> x.solve(0, 0));
        x.puzzle(x.room(2), 2, 1, 6, 1);
        x.puzzle(1, 2, 1, NONE, 1);
        x.come(1);
        x.prop(6, true);
        Due.notNow("solve one that is out", () -> x.solve(1, 0));
        Due.is("refusals change nothing", 6, x.group(0, 2));
        x.giveUp(0);
        Due.notNow("solve when out", () -> x.solve(0, 1));
        Due.noSuch("no such puzzle when out", () -> x.solve(0, 8));
    }

    private static void hints() {
        Hall x = chain();
        x.puzzle(0, 2, 8, 5, 1);
        x.come(0);
        Due.is("the shortest way begins with 3", 3, x.hint(0));
        Due.is("a hint costs 2", 58, x.group(0, 4));
        Due.is("the same again", 3, x.hint(0));
        Due.is("costs 5", 53, x.group(0, 4));
        x.prop(5, true);
        Due.is("another puzzle", 0, x.hint(0));
        Due.is("costs 2 again", 51, x.group(0, 4));
        x.prop(5, false);
        x.solve(0, 0);
        Due.is("a way of two still, of the sets 6 and 12 the 6", 1, x.hint(0));
        Due.is("which costs 2", 49, x.group(0, 4));
        x.solve(0, 3);
        Due.is("the last one", 2, x.hint(0));
        Due.is("hints", 5, x.group(0, 5));
        x.pass(3);
        Due.is("minutes left", 44, x.group(0, 4));
    }

    private static void leastWay() {
        Hall x = new Hall();
        x.room(2);
        // Two ways of two: 0 and 3 (the number 9), 1 and 2 (the number 6), which is less.
        x.puzzle(0, 2, 4, NONE, 1);
        x.puzzle(0, 8, 1, NONE, 1);
        x.puzzle(0, 2, 8, NONE, 1);
        x.puzzle(0, 4, 1, NONE, 1);
        x.come(0);
        Due.is("the lowest of its way that it could solve now", 2, x.hint(0));
        x.room(2);
        // One way of two with a high number, and one of three with a low number.
        x.puzzle(1, 2, 4, NONE, 1);
        x.puzzle(1, 4, 8, NONE, 1);
        x.puzzle(1, 8, 1, NONE, 1);
        x.puzzle(1, 2, 16, NONE, 1);
        x.puzzle(1, 16, 1, 2, 1);
        x.come(1);
        Due.is("fewest puzzles ahead of the least number", 3, x.hint(1));
        x.prop(2, true);
        Due.is("what is out is no way", 0, x.hint(1));
        x.solve(1, 3);
        x.prop(2, false);
        Due.is("what is solved is in no way", 4, x.hint(1));
    }

    private static void longestWay() {
        Hall x = new Hall();
        x.room(256);
        for (int k = 0; k < 8; k++) {
            x.puzzle(0, 2 << k, 1 << k, NONE, 1);
        }
        x.come(0);
        for (int k = 7; k >= 0; k--) {
            Due.is("the way of " + (k + 1) + " puzzles", k, x.hint(0));
            x.solve(0, k);
        }
        Due.is("out by all eight", KeylessHall.WON, x.group(0, 0));
        Due.is("to be reset", 255, x.state(0, 1));
    }

    private static void hintsThatCostTheHour() {
        Hall x = chain();
        x.come(0);
        // 2 + 5 + 8 + 11 + 14 = 40
        for (int k = 0; k < 5; k++) {
            x.hint(0);
        }
        Due.is("minutes left", 20, x.group(0, 4));
        x.pass(3);
        Due.is("the last hint tells its puzzle", 0, x.hint(0));
        groupIs(x, 0, KeylessHall.LOST, 2, 0, 0);
        Due.is("hints", 6, x.group(0, 5));
        Due.is("the room is DIRTY", KeylessHall.DIRTY, x.state(0, 0));
        x.reset(0, 0, false);
        x.come(0);
        x.pass(2);
        for (int k = 0; k < 5; k++) {
            x.hint(1);
        }
        x.pass(1);
        x.hint(1);
        Due.is("less than nothing left", KeylessHall.LOST, x.group(1, 0));
        x.reset(0, 0, false);
        x.come(0);
        for (int k = 0; k < 5; k++) {
            x.hint(2);
        }
        x.pass(2);
        x.hint(2);
        groupIs(x, 2, KeylessHall.PLAYS, 2, 0, 1);
        x.pass(1);
        groupIs(x, 2, KeylessHall.LOST, 2, 0, 0);
    }

    private static void hintRefusals() {
        Hall x = chain();
        Due.noSuch("hint of no group", () -> x.hint(0));
        x.come(0);
        Due.noSuch("hint(-1)", () -> x.hint(-1));
        Due.noSuch("hint(1)", () -> x.hint(1));
        x.giveUp(0);
        Due.notNow("hint when out", () -> x.hint(0));
        Due.is("no hint was counted", 0, x.group(0, 5));
    }

    private static void giveUp() {
        Hall x = chain();
        Due.noSuch("giveUp of no group", () -> x.giveUp(0));
        x.come(0);
        x.solve(0, 0);
        x.pass(10);
        x.giveUp(0);
        groupIs(x, 0, KeylessHall.LOST, 6, 1, 0);
        Due.is("DIRTY", KeylessHall.DIRTY, x.state(0, 0));
        Due.is("to be reset", 1, x.state(0, 1));
        Due.notNow("giveUp again", () -> x.giveUp(0));
        Due.noSuch("giveUp(-1)", () -> x.giveUp(-1));
        Due.noSuch("giveUp(1)", () -> x.giveUp(1));
    }

    private static void theHour() {
        Hall x = chain();
        x.pass(100);
        x.come(0);
        x.solve(0, 0);
        x.pass(59);
        groupIs(x, 0, KeylessHall.PLAYS, 6, 1, 1);
        x.pass(1);
        groupIs(x, 0, KeylessHall.LOST, 6, 1, 0);
        Due.is("DIRTY", KeylessHall.DIRTY, x.state(0, 0));
        Due.is("to be reset", 1, x.state(0, 1));
        x.reset(0, 0, false);
        x.pass(1);
        x.come(0);
        x.hint(1);
        x.pass(57);
        Due.is("one minute less what the hint cost", 1, x.group(1, 4));
        x.pass(1);
        Due.is("over", KeylessHall.LOST, x.group(1, 0));
    }

    private static void freed() {
        Hall x = chain();
        x.puzzle(0, 2, 8, 5, 1);
        x.come(0);
        Due.is("another way is left", 0, x.prop(0, true));
        Due.is("and broken too", 1, x.prop(5, true));
        groupIs(x, 0, KeylessHall.FREED, 2, 0, 0);
        x.prop(0, false);
        x.reset(0, 0, false);
        x.come(0);
        x.solve(1, 0);
        x.solve(1, 1);
        Due.is("what it holds already is not lost", 0, x.prop(1, true));
        Due.is("the last puzzle breaks", 1, x.prop(2, true));
        groupIs(x, 1, KeylessHall.FREED, 14, 3, 0);
        Due.is("to be reset", 3, x.state(0, 1));
    }

    private static void groupRefusals() {
        Hall x = chain();
        Due.noSuch("group of no group", () -> x.group(0, 9));
        x.come(0);
        Due.outOfRange("what -1", () -> x.group(0, -1));
        Due.outOfRange("what 6", () -> x.group(0, 6));
        Due.noSuch("group(-1, 0)", () -> x.group(-1, 0));
    }
}
