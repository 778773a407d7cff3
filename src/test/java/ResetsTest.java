/** Promises 13, 14, 22, and what resets make of 18 and 20. */
public final class ResetsTest {
    private static final int NONE = KeylessHall.NONE;

    private ResetsTest() {
    }

    public static void main(String[] args) {
        stepByStep();
        nothingToReset();
        orderOfPuzzles();
        orderInACircle();
        orderWithThingsAtFirst();
        resetRefusals();
        crewIsFreeAgain();
        forgetOnTheWay();
        forgetLastUnchecked();
        checkFindsForgotten();
        checkFindsForgottenAgain();
        forgetRefusals();
        forgottenIsKeptUntilTheNextReset();
        severalCrewMembers();
        crewRefusals();
        Due.end("ResetsTest");
    }

    private static void crewIs(Hall x, int crew, int room, int puzzle, int left) {
        Due.is("the room of crew " + crew, room, x.crew(crew, 0));
        Due.is("the puzzle of crew " + crew, puzzle, x.crew(crew, 1));
        Due.is("minutes of crew " + crew, left, x.crew(crew, 2));
    }

    private static void roomIs(Hall x, int room, int how, int toReset, int forgotten) {
        Due.is("how room " + room + " is", how, x.state(room, 0));
        Due.is("what is to be reset in room " + room, toReset, x.state(room, 1));
        Due.is("what was forgotten in room " + room, forgotten, x.state(room, 2));
    }

    /** Room 0, that was left with puzzles 0 (3 minutes), 1 (4) and 2 (5), a chain, to be reset. */
    private static Hall dirtyChain() {
        Hall x = new Hall();
        x.room(2);
        x.puzzle(0, 2, 4, NONE, 3);
        x.puzzle(0, 4, 8, NONE, 4);
        x.puzzle(0, 8, 1, NONE, 5);
        x.come(0);
        for (int k = 0; k < 3; k++) {
            x.solve(0, k);
        }
        return x;
    }

    private static void stepByStep() {
        Hall x = dirtyChain();
        roomIs(x, 0, KeylessHall.DIRTY, 7, 0);
        x.pass(20);
        roomIs(x, 0, KeylessHall.DIRTY, 7, 0);
        x.reset(0, 1, false);
        roomIs(x, 0, KeylessHall.RESETTING, 7, 0);
        crewIs(x, 1, 0, 2, 5);
        crewIs(x, 0, NONE, NONE, NONE);
        x.pass(4);
        crewIs(x, 1, 0, 2, 1);
        roomIs(x, 0, KeylessHall.RESETTING, 7, 0);
        x.pass(1);
        crewIs(x, 1, 0, 1, 4);
        roomIs(x, 0, KeylessHall.RESETTING, 3, 0);
        x.pass(4);
        crewIs(x, 1, 0, 0, 3);
        roomIs(x, 0, KeylessHall.RESETTING, 1, 0);
        x.pass(2);
        roomIs(x, 0, KeylessHall.RESETTING, 1, 0);
        x.pass(1);
        roomIs(x, 0, KeylessHall.READY, 0, 0);
        crewIs(x, 1, NONE, NONE, NONE);
        Hall y = dirtyChain();
        y.reset(0, 2, true);
        y.pass(12);
        crewIs(y, 2, 0, NONE, 5);
        roomIs(y, 0, KeylessHall.RESETTING, 0, 0);
        y.pass(4);
        crewIs(y, 2, 0, NONE, 1);
        y.pass(1);
        crewIs(y, 2, NONE, NONE, NONE);
        roomIs(y, 0, KeylessHall.READY, 0, 0);
    }

    private static void nothingToReset() {
        Hall x = new Hall();
        x.room(2);
        x.puzzle(0, 2, 1, NONE, 3);
        x.come(0);
        x.giveUp(0);
        roomIs(x, 0, KeylessHall.DIRTY, 0, 0);
        x.reset(0, 0, false);
        roomIs(x, 0, KeylessHall.READY, 0, 0);
        crewIs(x, 0, NONE, NONE, NONE);
        x.come(0);
        x.giveUp(1);
        x.reset(0, 0, true);
        roomIs(x, 0, KeylessHall.RESETTING, 0, 0);
        crewIs(x, 0, 0, NONE, 5);
        x.pass(5);
        roomIs(x, 0, KeylessHall.READY, 0, 0);
    }

    /** Tells which puzzles a crew member goes through, each of which takes 1 minute. */
    private static String resetOrder(Hall x, int room, int crew) {
        StringBuilder order = new StringBuilder();
        x.reset(room, crew, false);
        for (int k = 0; k < 9 && x.crew(crew, 1) != NONE; k++) {
            order.append(x.crew(crew, 1));
            x.pass(1);
        }
        return order.toString();
    }

    private static void solveInOrder(Hall x, int group, int... puzzles) {
        for (int puzzle : puzzles) {
            x.solve(group, puzzle);
        }
    }

    private static void orderOfPuzzles() {
        Hall x = new Hall();
        x.room(2);
        // 3 gives what 0 needs, 0 gives what 2 needs: 1, then 2 ahead of 0, 0 ahead of 3.
        x.puzzle(0, 32, 4, NONE, 1);
        x.puzzle(0, 2, 8, NONE, 1);
        x.puzzle(0, 4, 16, NONE, 1);
        x.puzzle(0, 2, 32, NONE, 1);
        x.puzzle(0, 2, 1, NONE, 1);
        x.come(0);
        solveInOrder(x, 0, 3, 0, 2, 1);
        x.giveUp(0);
        Due.is("order", "2103", resetOrder(x, 0, 0));
        x.come(0);
        // Without 0 nobody needs what 3 gives.
        solveInOrder(x, 1, 3, 1);
        x.giveUp(1);
        Due.is("order without 0", "31", resetOrder(x, 0, 0));
        x.come(0);
        solveInOrder(x, 2, 3, 0, 1, 4);
        Due.is("order with 4", "4103", resetOrder(x, 0, 0));
    }

    private static void orderInACircle() {
        Hall x = new Hall();
        x.room(2);
        // 0 gives what 1 needs and 1 gives what 0 could not be without: a circle by way of 2.
        x.puzzle(0, 4, 8, NONE, 1);
        x.puzzle(0, 8, 4, NONE, 1);
        x.puzzle(0, 2, 12, NONE, 1);
        x.puzzle(0, 2, 1, NONE, 1);
        x.come(0);
        solveInOrder(x, 0, 2, 0, 1);
        x.giveUp(0);
        Due.is("order in a circle", "210", resetOrder(x, 0, 0));
    }

    private static void orderWithThingsAtFirst() {
        Hall x = new Hall();
        x.room(6);
        // What 1 gives lies there at first, so that 0 needs it makes no difference.
        x.puzzle(0, 4, 8, NONE, 1);
        x.puzzle(0, 2, 4, NONE, 1);
        x.puzzle(0, 2, 1, NONE, 1);
        x.come(0);
        solveInOrder(x, 0, 0, 1);
        x.giveUp(0);
        Due.is("order with things at first", "10", resetOrder(x, 0, 0));
    }

    private static void resetRefusals() {
        Hall x = dirtyChain();
        Due.noSuch("reset room -1", () -> x.reset(-1, 0, false));
        Due.noSuch("reset room 1", () -> x.reset(1, 0, false));
        Due.noSuch("reset by crew -1", () -> x.reset(0, -1, false));
        Due.noSuch("reset by crew 3", () -> x.reset(0, 3, false));
        x.room(2);
        x.puzzle(1, 2, 1, NONE, 9);
        Due.notNow("reset a READY room", () -> x.reset(1, 0, false));
        Due.noSuch("by no crew member", () -> x.reset(1, 3, false));
        x.come(1);
        Due.notNow("reset a PLAYED room", () -> x.reset(1, 0, false));
        x.solve(1, 0);
        x.reset(1, 0, false);
        Due.notNow("reset a room that is RESETTING", () -> x.reset(1, 1, false));
        Due.notNow("reset by one who resets another one", () -> x.reset(0, 0, false));
        roomIs(x, 0, KeylessHall.DIRTY, 7, 0);
        x.reset(0, 1, false);
        roomIs(x, 0, KeylessHall.RESETTING, 7, 0);
    }

    private static void crewIsFreeAgain() {
        Hall x = dirtyChain();
        x.reset(0, 0, true);
        x.pass(17);
        x.come(0);
        x.giveUp(1);
        x.reset(0, 0, true);
        x.room(2);
        x.puzzle(1, 2, 1, NONE, 1);
        x.come(1);
        x.giveUp(2);
        Due.notNow("who checks does nothing else", () -> x.reset(1, 0, false));
        x.pass(5);
        x.reset(1, 0, true);
        crewIs(x, 0, 1, NONE, 5);
    }

    private static void forgetOnTheWay() {
        Hall x = dirtyChain();
        x.reset(0, 0, false);
        x.pass(2);
        Due.is("forget", 2, x.forget(0));
        crewIs(x, 0, 0, 1, 4);
        roomIs(x, 0, KeylessHall.RESETTING, 3, 4);
        x.pass(4);
        Due.is("forget", 0, x.forget(0));
        roomIs(x, 0, KeylessHall.READY, 0, 5);
        crewIs(x, 0, NONE, NONE, NONE);
    }

    private static void forgetLastUnchecked() {
        Hall x = dirtyChain();
        x.reset(0, 0, false);
        Due.is("forget", 2, x.forget(0));
        Due.is("forget", 1, x.forget(0));
        Due.is("forget", 0, x.forget(0));
        roomIs(x, 0, KeylessHall.READY, 0, 7);
        Due.is("everything lies there", 1, x.come(0));
        Due.is("so it won", KeylessHall.WON, x.group(1, 0));
        Due.is("what it held", 15, x.group(1, 2));
        roomIs(x, 0, KeylessHall.DIRTY, 7, 7);
    }

    private static void checkFindsForgotten() {
        Hall x = dirtyChain();
        x.reset(0, 0, true);
        x.forget(0);
        x.pass(4);
        x.pass(2);
        Due.is("forget", 0, x.forget(0));
        // In place of the check what was forgotten is reset, then comes the check.
        roomIs(x, 0, KeylessHall.RESETTING, 5, 0);
        crewIs(x, 0, 0, 2, 5);
        x.pass(5);
        crewIs(x, 0, 0, 0, 3);
        x.pass(3);
        crewIs(x, 0, 0, NONE, 5);
        roomIs(x, 0, KeylessHall.RESETTING, 0, 0);
        x.pass(5);
        roomIs(x, 0, KeylessHall.READY, 0, 0);
        x.come(0);
        Due.is("what the next group holds", 2, x.group(1, 2));
    }

    private static void checkFindsForgottenAgain() {
        Hall x = new Hall();
        x.room(2);
        x.puzzle(0, 2, 1, NONE, 6);
        x.come(0);
        x.solve(0, 0);
        x.reset(0, 0, true);
        for (int k = 0; k < 4; k++) {
            Due.is("forget time and again", 0, x.forget(0));
            crewIs(x, 0, 0, 0, 6);
            roomIs(x, 0, KeylessHall.RESETTING, 1, 0);
            x.pass(1);
        }
        x.pass(5);
        crewIs(x, 0, 0, NONE, 5);
    }

    private static void forgetRefusals() {
        Hall x = dirtyChain();
        Due.noSuch("forget(-1)", () -> x.forget(-1));
        Due.noSuch("forget(3)", () -> x.forget(3));
        Due.notNow("forget without a room", () -> x.forget(0));
        x.reset(0, 0, true);
        Due.notNow("forget by another one", () -> x.forget(1));
        x.pass(12);
        Due.notNow("forget while it is checked", () -> x.forget(0));
        crewIs(x, 0, 0, NONE, 5);
    }

    private static void forgottenIsKeptUntilTheNextReset() {
        Hall x = dirtyChain();
        x.reset(0, 0, false);
        x.pass(5);
        x.forget(0);
        x.pass(3);
        roomIs(x, 0, KeylessHall.READY, 0, 2);
        x.come(0);
        roomIs(x, 0, KeylessHall.PLAYED, 0, 2);
        x.solve(1, 0);
        x.giveUp(1);
        roomIs(x, 0, KeylessHall.DIRTY, 3, 2);
        x.reset(0, 0, false);
        roomIs(x, 0, KeylessHall.RESETTING, 3, 0);
        x.pass(7);
        roomIs(x, 0, KeylessHall.READY, 0, 0);
        x.come(0);
        Due.is("what the next group holds", 2, x.group(2, 2));
    }

    private static void severalCrewMembers() {
        Hall x = new Hall();
        for (int k = 0; k < 4; k++) {
            x.room(2);
            x.puzzle(k, 2, 1, NONE, k + 2);
            x.come(k);
            x.solve(k, 0);
        }
        x.reset(3, 0, false);
        x.reset(1, 1, true);
        x.reset(0, 2, false);
        x.pass(3);
        roomIs(x, 0, KeylessHall.READY, 0, 0);
        crewIs(x, 2, NONE, NONE, NONE);
        crewIs(x, 1, 1, NONE, 5);
        crewIs(x, 0, 3, 0, 2);
        x.reset(2, 2, false);
        x.pass(2);
        roomIs(x, 3, KeylessHall.READY, 0, 0);
        crewIs(x, 2, 2, 0, 2);
        x.pass(2);
        roomIs(x, 2, KeylessHall.READY, 0, 0);
        x.pass(1);
        roomIs(x, 1, KeylessHall.READY, 0, 0);
    }

    private static void crewRefusals() {
        Hall x = new Hall();
        Due.noSuch("crew(-1, 0)", () -> x.crew(-1, 0));
        Due.noSuch("crew(3, 9)", () -> x.crew(3, 9));
        Due.outOfRange("crew(0, -1)", () -> x.crew(0, -1));
        Due.outOfRange("crew(2, 3)", () -> x.crew(2, 3));
    }
}
