/**
 * Promises 13, 14 and 22, and what "Terms" says of resets, at their bounds. Ahead of each test stands the sentence
 * of the document that it holds the class to.
 */
public final class ResetBoundsTest {
    private static final int NONE = KeylessHall.NONE;
    private static final int READY = KeylessHall.READY, PLAYED = KeylessHall.PLAYED;
    private static final int DIRTY = KeylessHall.DIRTY, RESETTING = KeylessHall.RESETTING;

    private ResetBoundsTest() {
    }

    public static void main(String[] args) {
        crewNumbers();
        onlyDirtyRooms();
        whoDoesNothingElse();
        allThreeAreBusy();
        noneToReset();
        oneToReset();
        eightToReset();
        eightToResetTheOtherWay();
        onlyThoseToBeResetNeed();
        whatLiesThereAtFirst();
        noneSuchSoTheGreatest();
        eachTakesItsMinutes();
        checkTakesFiveMinutes();
        forgetInAnyMinute();
        forgetTheLastOne();
        forgetAllOfEight();
        forgottenCountsAsReset();
        forgetOnlyAPuzzle();
        checkFindsNone();
        checkFindsOne();
        checkFindsAll();
        checkFindsAgain();
        uncheckedFindsNothing();
        forgottenUntilResetAgain();
        toBeResetInEachState();
        resetAtTheEnd();
        whatOfACrewMember();
        Due.end("ResetBoundsTest");
    }

    private static void crewIs(Hall x, int crew, int room, int puzzle, int left) {
        Due.is("the room of crew " + crew, room, x.crew(crew, 0));
        Due.is("the puzzle of crew " + crew, puzzle, x.crew(crew, 1));
        Due.is("minutes of crew " + crew, left, x.crew(crew, 2));
    }

    private static void isIdle(Hall x, int crew) {
        crewIs(x, crew, NONE, NONE, NONE);
    }

    private static void roomIs(Hall x, int room, int how, int toReset, int forgotten) {
        Due.is("how room " + room + " is", how, x.state(room, 0));
        Due.is("what is to be reset in room " + room, toReset, x.state(room, 1));
        Due.is("what was forgotten in room " + room, forgotten, x.state(room, 2));
    }

    /** A house with a chain of eight, of which the first ones are to be reset. */
    private static Hall dirty(int solved) {
        Hall x = new Hall();
        Houses.chainOfEight(x);
        x.come(0);
        Houses.solveFirst(x, 0, solved);
        if (solved < 8) {
            x.giveUp(0);
        }
        return x;
    }

    /** Adds a room with one puzzle of so many minutes, which was solved. */
    private static void addDirtyRoom(Hall x, int minutes) {
        int room = x.room(2);
        x.puzzle(room, 2, 1, NONE, minutes);
        x.solve(x.come(room), 0);
    }

    // ---- promise 13

    /** "crew members 0 to 2"; "`crew`: 0 to 2"; "IndexOutOfBoundsException if there is no such [..] crew member" */
    private static void crewNumbers() {
        Hall x = dirty(1);
        for (int crew : new int[] {Houses.LEAST, -2, -1, 3, 4, Houses.GREATEST}) {
            Due.noSuch("reset by " + crew, () -> x.reset(0, crew, false));
            Due.noSuch("reset with a check by " + crew, () -> x.reset(0, crew, true));
            Due.noSuch("forget by " + crew, () -> x.forget(crew));
            for (int k = 0; k < 3; k++) {
                int what = k;
                Due.noSuch("crew " + crew + ", " + what, () -> x.crew(crew, what));
            }
        }
        roomIs(x, 0, DIRTY, 1, 0);
        for (int crew = 0; crew < 3; crew++) {
            isIdle(x, crew);
            Hall y = dirty(1);
            y.reset(0, crew, false);
            crewIs(y, crew, 0, 0, 1);
            Due.is("forget by " + crew, 0, y.forget(crew));
            isIdle(y, crew);
        }
        for (int room : new int[] {Houses.LEAST, -1, 1, 4, Houses.GREATEST}) {
            Due.noSuch("reset room " + room, () -> x.reset(room, 0, false));
            Due.noSuch("reset room " + room + " by nobody", () -> x.reset(room, 3, false));
        }
        isIdle(x, 0);
    }

    /** "To reset a DIRTY room a crew member [..] begins with it; it is RESETTING." */
    private static void onlyDirtyRooms() {
        Hall x = new Hall();
        Houses.chainOfEight(x);
        Due.notNow("READY", () -> x.reset(0, 0, false));
        roomIs(x, 0, READY, 0, 0);
        x.come(0);
        Due.notNow("PLAYED", () -> x.reset(0, 0, false));
        x.solve(0, 0);
        Due.notNow("PLAYED, with one solved", () -> x.reset(0, 0, true));
        roomIs(x, 0, PLAYED, 0, 0);
        x.giveUp(0);
        x.reset(0, 0, true);
        roomIs(x, 0, RESETTING, 1, 0);
        Due.notNow("RESETTING, by another one", () -> x.reset(0, 1, false));
        Due.notNow("RESETTING, by the same one", () -> x.reset(0, 0, false));
        x.pass(1);
        Due.notNow("checked, by another one", () -> x.reset(0, 2, false));
        crewIs(x, 0, 0, NONE, 5);
        x.pass(5);
        Due.notNow("READY again", () -> x.reset(0, 0, false));
        roomIs(x, 0, READY, 0, 0);
        for (int crew = 0; crew < 3; crew++) {
            isIdle(x, crew);
        }
    }

    /** "a crew member, who does nothing else"; "IllegalStateException if [..] they reset another one" */
    private static void whoDoesNothingElse() {
        Hall x = new Hall();
        addDirtyRoom(x, 2);
        addDirtyRoom(x, 1);
        x.reset(0, 0, true);
        Due.notNow("with a puzzle", () -> x.reset(1, 0, false));
        x.pass(1);
        Due.notNow("in the last minute of it", () -> x.reset(1, 0, false));
        x.pass(1);
        Due.notNow("with a check", () -> x.reset(1, 0, true));
        x.pass(4);
        Due.notNow("in the last minute of it", () -> x.reset(1, 0, false));
        roomIs(x, 1, DIRTY, 1, 0);
        crewIs(x, 0, 0, NONE, 1);
        x.pass(1);
        x.reset(1, 0, false);
        crewIs(x, 0, 1, 0, 1);
        Due.is("forget", 0, x.forget(0));
        addDirtyRoom(x, 3);
        x.reset(2, 0, false);
        crewIs(x, 0, 2, 0, 3);
    }

    private static void allThreeAreBusy() {
        Hall x = new Hall();
        for (int room = 0; room < 4; room++) {
            addDirtyRoom(x, room + 1);
        }
        for (int crew = 0; crew < 3; crew++) {
            x.reset(crew + 1, crew, false);
        }
        for (int k = 0; k < 3; k++) {
            int crew = k;
            Due.notNow("nobody is left, nor " + crew, () -> x.reset(0, crew, false));
            crewIs(x, crew, crew + 1, 0, crew + 2);
        }
        roomIs(x, 0, DIRTY, 1, 0);
        x.pass(2);
        x.reset(0, 0, true);
        crewIs(x, 0, 0, 0, 1);
        crewIs(x, 1, 2, 0, 1);
        crewIs(x, 2, 3, 0, 2);
    }

    // ---- what is reset, in its order

    /** "When the last one is reset (at once, if there is none), the room is READY" */
    private static void noneToReset() {
        Hall x = dirty(0);
        roomIs(x, 0, DIRTY, 0, 0);
        x.reset(0, 2, false);
        roomIs(x, 0, READY, 0, 0);
        isIdle(x, 2);
        Due.notNow("there is nothing to forget", () -> x.forget(2));
        Due.is("a group comes at once", 1, x.come(0));
        x.giveUp(1);
        x.reset(0, 2, true);
        roomIs(x, 0, RESETTING, 0, 0);
        crewIs(x, 2, 0, NONE, 5);
    }

    private static void oneToReset() {
        Hall x = dirty(1);
        x.reset(0, 0, false);
        roomIs(x, 0, RESETTING, 1, 0);
        crewIs(x, 0, 0, 0, 1);
        x.pass(1);
        roomIs(x, 0, READY, 0, 0);
        isIdle(x, 0);
    }

    /** "always the greatest one that is to be reset, of which no other one that is to be reset needs something" */
    private static void eightToReset() {
        Hall x = dirty(8);
        x.reset(0, 0, false);
        for (int k = 7; k >= 0; k--) {
            crewIs(x, 0, 0, k, 1);
            roomIs(x, 0, RESETTING, (2 << k) - 1, 0);
            x.pass(1);
        }
        roomIs(x, 0, READY, 0, 0);
        isIdle(x, 0);
    }

    private static void eightToResetTheOtherWay() {
        Hall x = new Hall();
        x.room(512);
        for (int k = 0; k < 8; k++) {
            x.puzzle(0, 4 << k, k == 0 ? 1 : 2 << k, NONE, 1);
        }
        x.come(0);
        for (int k = 7; k >= 0; k--) {
            x.solve(0, k);
        }
        x.reset(0, 1, false);
        for (int k = 0; k < 8; k++) {
            crewIs(x, 1, 0, k, 1);
            roomIs(x, 0, RESETTING, 256 - (1 << k), 0);
            x.pass(1);
        }
        roomIs(x, 0, READY, 0, 0);
    }

    /** "of which no other one that is to be reset needs something that it gives" */
    private static void onlyThoseToBeResetNeed() {
        Hall x = new Hall();
        x.room(2);
        x.puzzle(0, 4, 1, NONE, 1);
        x.puzzle(0, 2, 8, NONE, 1);
        x.puzzle(0, 2, 20, NONE, 1);
        x.come(0);
        x.solve(0, 1);
        x.solve(0, 2);
        x.giveUp(0);
        x.reset(0, 0, false);
        crewIs(x, 0, 0, 2, 1);
        x.pass(2);
        x.come(0);
        x.solve(1, 1);
        x.solve(1, 2);
        x.solve(1, 0);
        x.reset(0, 0, false);
        crewIs(x, 0, 0, 1, 1);
        x.pass(1);
        crewIs(x, 0, 0, 0, 1);
        x.pass(1);
        crewIs(x, 0, 0, 2, 1);
    }

    /** "[..] needs something that it gives and that does not lie there at first" */
    private static void whatLiesThereAtFirst() {
        for (int first : new int[] {2, 6, 10, 14}) {
            Hall x = new Hall();
            x.room(first);
            x.puzzle(0, 12, 16, NONE, 1);
            x.puzzle(0, 2, 12, NONE, 1);
            x.puzzle(0, 2, 1, NONE, 1);
            x.come(0);
            x.solve(0, 1);
            x.solve(0, 0);
            x.giveUp(0);
            x.reset(0, 0, false);
            // Only if both things that 1 gives to 0 lie there at first, 1 comes first.
            crewIs(x, 0, 0, first == 14 ? 1 : 0, 1);
            x.pass(1);
            crewIs(x, 0, 0, first == 14 ? 0 : 1, 1);
        }
    }

    /** "(if there is none such, the greatest one)" */
    private static void noneSuchSoTheGreatest() {
        Hall x = new Hall();
        x.room(2);
        x.puzzle(0, 16, 32, NONE, 1);
        x.puzzle(0, 32, 64, NONE, 1);
        x.puzzle(0, 64, 16, NONE, 1);
        x.puzzle(0, 2, 16, NONE, 1);
        x.puzzle(0, 2, 1, NONE, 1);
        x.come(0);
        for (int k : new int[] {3, 0, 1, 2}) {
            x.solve(0, k);
        }
        x.giveUp(0);
        x.reset(0, 0, false);
        // 0, 1, 2 are a circle, and 0 needs what 3 gives: all are needed.
        crewIs(x, 0, 0, 3, 1);
        x.pass(1);
        crewIs(x, 0, 0, 2, 1);
        x.pass(1);
        crewIs(x, 0, 0, 1, 1);
        x.pass(1);
        crewIs(x, 0, 0, 0, 1);
        x.pass(1);
        roomIs(x, 0, READY, 0, 0);
    }

    /** "Each takes its minutes": 1 to 10. */
    private static void eachTakesItsMinutes() {
        for (int minutes = 1; minutes <= 10; minutes++) {
            Hall x = new Hall();
            addDirtyRoom(x, minutes);
            x.reset(0, 0, false);
            for (int left = minutes; left > 0; left--) {
                crewIs(x, 0, 0, 0, left);
                roomIs(x, 0, RESETTING, 1, 0);
                x.pass(1);
            }
            roomIs(x, 0, READY, 0, 0);
            isIdle(x, 0);
        }
        Hall y = new Hall();
        y.room(2);
        for (int k = 0; k < 8; k++) {
            y.puzzle(0, 2 << k, k < 7 ? 4 << k : 1, NONE, 10);
        }
        y.come(0);
        Houses.solveFirst(y, 0, 8);
        y.reset(0, 0, false);
        y.pass(79);
        crewIs(y, 0, 0, 0, 1);
        roomIs(y, 0, RESETTING, 1, 0);
        y.pass(1);
        roomIs(y, 0, READY, 0, 0);
    }

    /** "or, if it was told to be checked, it is checked, which takes 5 minutes, and then it is READY." */
    private static void checkTakesFiveMinutes() {
        for (int solved = 0; solved <= 8; solved++) {
            Hall x = dirty(solved);
            x.reset(0, 1, true);
            if (solved > 0) {
                x.pass(solved);
            }
            for (int left = 5; left > 0; left--) {
                crewIs(x, 1, 0, NONE, left);
                roomIs(x, 0, RESETTING, 0, 0);
                x.pass(1);
            }
            roomIs(x, 0, READY, 0, 0);
            isIdle(x, 1);
            Hall y = dirty(solved);
            y.reset(0, 1, true);
            y.pass(solved + 5);
            roomIs(y, 0, READY, 0, 0);
        }
    }

    // ---- promise 14

    /** "to forget is to pass by the puzzle that is being reset now, at once" */
    private static void forgetInAnyMinute() {
        for (int minute = 0; minute < 10; minute++) {
            Hall x = new Hall();
            x.room(2);
            x.puzzle(0, 2, 4, NONE, 10);
            x.puzzle(0, 4, 8, NONE, 10);
            x.puzzle(0, 8, 1, NONE, 1);
            x.come(0);
            x.solve(0, 0);
            x.solve(0, 1);
            x.giveUp(0);
            x.reset(0, 0, false);
            Houses.passTo(x, minute);
            crewIs(x, 0, 0, 1, 10 - minute);
            Due.is("forget", 1, x.forget(0));
            crewIs(x, 0, 0, 0, 10);
            roomIs(x, 0, RESETTING, 1, 2);
            x.pass(9);
            crewIs(x, 0, 0, 0, 1);
            x.pass(1);
            roomIs(x, 0, READY, 0, 2);
        }
    }

    private static void forgetTheLastOne() {
        Hall x = dirty(1);
        x.reset(0, 0, false);
        Due.is("forget the only one", 0, x.forget(0));
        roomIs(x, 0, READY, 0, 1);
        isIdle(x, 0);
        Hall y = dirty(2);
        y.reset(0, 0, false);
        y.pass(1);
        Due.is("forget the last one", 0, y.forget(0));
        roomIs(y, 0, READY, 0, 1);
        isIdle(y, 0);
        Due.notNow("forget in a room that is READY", () -> y.forget(0));
        roomIs(y, 0, READY, 0, 1);
    }

    private static void forgetAllOfEight() {
        Hall x = dirty(8);
        x.reset(0, 0, false);
        int forgotten = 0;
        for (int k = 7; k >= 0; k--) {
            crewIs(x, 0, 0, k, 1);
            roomIs(x, 0, RESETTING, (2 << k) - 1, forgotten);
            Due.is("forget", k, x.forget(0));
            forgotten += 1 << k;
        }
        roomIs(x, 0, READY, 0, 255);
        isIdle(x, 0);
        Due.is("no minute passed", 0, x.minute());
    }

    /** "it counts as reset, but is forgotten." */
    private static void forgottenCountsAsReset() {
        Hall x = new Hall();
        x.room(2);
        x.puzzle(0, 4, 1024, NONE, 2);
        x.puzzle(0, 2, 1, NONE, 2);
        x.puzzle(0, 2, 4, NONE, 2);
        x.come(0);
        x.solve(0, 2);
        x.solve(0, 0);
        x.solve(0, 1);
        x.reset(0, 0, false);
        Due.is("1 is not needed", 1, x.forget(0));
        Due.is("2 is needed by 0", 0, x.forget(0));
        crewIs(x, 0, 0, 2, 2);
        roomIs(x, 0, RESETTING, 4, 3);
        x.pass(2);
        roomIs(x, 0, READY, 0, 3);
    }

    /** "IllegalStateException if they do not reset a puzzle now" */
    private static void forgetOnlyAPuzzle() {
        Hall x = dirty(2);
        for (int k = 0; k < 3; k++) {
            int crew = k;
            Due.notNow("nobody resets, nor " + crew, () -> x.forget(crew));
        }
        x.reset(0, 1, true);
        Due.notNow("another one resets", () -> x.forget(0));
        Due.notNow("another one resets", () -> x.forget(2));
        crewIs(x, 1, 0, 1, 1);
        x.pass(2);
        for (int left = 5; left > 0; left--) {
            Due.notNow("they check it", () -> x.forget(1));
            crewIs(x, 1, 0, NONE, left);
            roomIs(x, 0, RESETTING, 0, 0);
            x.pass(1);
        }
        Due.notNow("READY", () -> x.forget(1));
        roomIs(x, 0, READY, 0, 0);
        Hall y = dirty(0);
        y.reset(0, 0, true);
        Due.notNow("nothing but a check", () -> y.forget(0));
        crewIs(y, 0, 0, NONE, 5);
    }

    // ---- checks

    /** "at the beginning of a check all that were forgotten, if there are some": none. */
    private static void checkFindsNone() {
        Hall x = dirty(1);
        x.reset(0, 0, true);
        x.pass(1);
        crewIs(x, 0, 0, NONE, 5);
        roomIs(x, 0, RESETTING, 0, 0);
    }

    /** "[..] are to be reset in place of it, not forgotten any more, and the check comes behind that." */
    private static void checkFindsOne() {
        Hall x = dirty(3);
        x.reset(0, 0, true);
        x.pass(1);
        Due.is("forget", 1, x.forget(0));
        crewIs(x, 0, 0, 0, 1);
        roomIs(x, 0, RESETTING, 1, 2);
        x.pass(1);
        crewIs(x, 0, 0, 1, 1);
        roomIs(x, 0, RESETTING, 2, 0);
        x.pass(1);
        crewIs(x, 0, 0, NONE, 5);
        roomIs(x, 0, RESETTING, 0, 0);
        x.pass(5);
        roomIs(x, 0, READY, 0, 0);
        x.come(0);
        Due.is("nothing lies there solved", 0, x.group(1, 3));
    }

    private static void checkFindsAll() {
        Hall x = dirty(8);
        x.reset(0, 0, true);
        for (int k = 7; k > 0; k--) {
            Due.is("forget", k, x.forget(0));
        }
        roomIs(x, 0, RESETTING, 1, 254);
        Due.is("forget the last one", 0, x.forget(0));
        roomIs(x, 0, RESETTING, 255, 0);
        for (int k = 7; k >= 0; k--) {
            crewIs(x, 0, 0, k, 1);
            x.pass(1);
        }
        crewIs(x, 0, 0, NONE, 5);
        Due.is("minute", 8, x.minute());
        x.pass(5);
        roomIs(x, 0, READY, 0, 0);
    }

    private static void checkFindsAgain() {
        Hall x = dirty(2);
        x.reset(0, 0, true);
        Due.is("forget", 1, x.forget(0));
        roomIs(x, 0, RESETTING, 1, 2);
        x.pass(1);
        for (int again = 0; again < 5; again++) {
            crewIs(x, 0, 0, 1, 1);
            roomIs(x, 0, RESETTING, 2, 0);
            Due.is("forget it in place of the check", 1, x.forget(0));
        }
        crewIs(x, 0, 0, 1, 1);
        roomIs(x, 0, RESETTING, 2, 0);
        x.pass(1);
        crewIs(x, 0, 0, NONE, 5);
        x.pass(5);
        roomIs(x, 0, READY, 0, 0);
        Due.is("minutes", 7, x.minute());
    }

    /** "If the room is checked, that finds it": otherwise nothing does, also if a room was checked before. */
    private static void uncheckedFindsNothing() {
        Hall x = dirty(2);
        x.reset(0, 0, true);
        x.pass(7);
        x.come(0);
        Houses.solveFirst(x, 1, 2);
        x.giveUp(1);
        x.reset(0, 0, false);
        Due.is("forget", 1, x.forget(0));
        x.pass(1);
        roomIs(x, 0, READY, 0, 2);
        isIdle(x, 0);
        x.pass(600);
        roomIs(x, 0, READY, 0, 2);
        x.come(0);
        x.giveUp(2);
        x.reset(0, 0, true);
        // What counts as solved is to be reset, and a check begins behind it, with nothing forgotten.
        roomIs(x, 0, RESETTING, 2, 0);
        crewIs(x, 0, 0, 1, 1);
        x.pass(1);
        crewIs(x, 0, 0, NONE, 5);
    }

    // ---- promise 20, 1 and 2

    /** "2 those that were forgotten when it was reset last, until it is reset again, or are so far" */
    private static void forgottenUntilResetAgain() {
        Hall x = dirty(3);
        roomIs(x, 0, DIRTY, 7, 0);
        x.reset(0, 0, false);
        x.forget(0);
        roomIs(x, 0, RESETTING, 3, 4);
        x.pass(1);
        x.forget(0);
        roomIs(x, 0, READY, 0, 5);
        x.pass(600);
        roomIs(x, 0, READY, 0, 5);
        x.come(0);
        roomIs(x, 0, PLAYED, 0, 5);
        x.pass(60);
        roomIs(x, 0, DIRTY, 5, 5);
        x.pass(600);
        roomIs(x, 0, DIRTY, 5, 5);
        x.reset(0, 1, false);
        roomIs(x, 0, RESETTING, 5, 0);
        x.pass(2);
        roomIs(x, 0, READY, 0, 0);
    }

    /** "1 the puzzles that are to be reset, as a set, none of a room that is PLAYED" */
    private static void toBeResetInEachState() {
        Hall x = new Hall();
        Houses.chainOfEight(x);
        roomIs(x, 0, READY, 0, 0);
        x.come(0);
        for (int solved = 0; solved < 8; solved++) {
            roomIs(x, 0, PLAYED, 0, 0);
            x.solve(0, solved);
        }
        roomIs(x, 0, DIRTY, 255, 0);
        x.reset(0, 0, false);
        roomIs(x, 0, RESETTING, 255, 0);
        x.pass(7);
        roomIs(x, 0, RESETTING, 1, 0);
        x.pass(1);
        roomIs(x, 0, READY, 0, 0);
    }

    private static void resetAtTheEnd() {
        Hall x = dirty(2);
        Houses.passTo(x, 4999);
        x.reset(0, 0, false);
        x.pass(1);
        crewIs(x, 0, 0, 0, 1);
        Due.notNow("no minute is left", () -> x.pass(1));
        crewIs(x, 0, 0, 0, 1);
        roomIs(x, 0, RESETTING, 1, 0);
        Due.is("forget at 5000", 0, x.forget(0));
        roomIs(x, 0, READY, 0, 1);
        x.come(0);
        Due.is("a group at 5000", 6, x.group(1, 2));
    }

    // ---- promise 22

    /** "2 in how many minutes that, or the check, ends; NONE for each that is not so" */
    private static void whatOfACrewMember() {
        Hall x = new Hall();
        x.room(2);
        x.room(2);
        x.room(2);
        addDirtyRoom(x, 10);
        for (int crew = 0; crew < 3; crew++) {
            int who = crew;
            for (int what : new int[] {Houses.LEAST, -2, -1, 3, 4, Houses.GREATEST}) {
                Due.outOfRange("crew " + crew + ", " + what, () -> x.crew(who, what));
                Due.noSuch("crew 3, " + what, () -> x.crew(3, what));
                Due.noSuch("crew -1, " + what, () -> x.crew(-1, what));
            }
            isIdle(x, crew);
        }
        x.reset(3, 2, true);
        crewIs(x, 2, 3, 0, 10);
        x.pass(10);
        crewIs(x, 2, 3, NONE, 5);
        x.pass(5);
        isIdle(x, 2);
        isIdle(x, 0);
    }
}
