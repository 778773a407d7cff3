/**
 * Promises 9 to 12 and 21, and what "Terms" says of groups and hints, at their bounds. Ahead of each test stands
 * the sentence of the document that it holds the class to. How bookings keep groups out, BookingBoundsTest tells.
 */
public final class GroupBoundsTest {
    private static final int NONE = KeylessHall.NONE;
    private static final int PLAYS = KeylessHall.PLAYS, WON = KeylessHall.WON;
    private static final int LOST = KeylessHall.LOST, FREED = KeylessHall.FREED;

    private GroupBoundsTest() {
    }

    public static void main(String[] args) {
        groupNumbers();
        thirtyGroupsInOneRoom();
        noGroupIsMadeByARefusedCall();
        comeOnlyIntoReadyRooms();
        comeOnlyIntoRoomsThatCanBeLeft();
        holdsWhatLiesThereAtFirst();
        noneForgotten();
        oneForgotten();
        sevenForgotten();
        allForgotten();
        forgottenThatIsOut();
        solveAPuzzleOfItsRoom();
        solveWhatIsNotOut();
        solveWhatItHasNotSolved();
        solveWithWhatItHolds();
        wonBySolving();
        wonAsItComesIn();
        theHour();
        theHourAtTheEnd();
        hoursSideBySide();
        wonInTheLastMinute();
        leftByLeaving();
        hintCosts();
        hintCostsForEachPuzzle();
        hintCostsForEachGroup();
        hintsUpToTheHour();
        wayOfOne();
        wayOfEight();
        wayOfTheFewest();
        wayOfTheLeastNumber();
        wayOfWhatIsNotOut();
        lowestThatItCouldSolveNow();
        givesUp();
        onlyWhilePlaying();
        freedWhilePlayed();
        freedFromWhatItHolds();
        notFreedByMending();
        whatOfAGroup();
        Due.end("GroupBoundsTest");
    }

    private static void groupIs(Hall x, int group, int how, int held, int solved, int left, int hints) {
        Due.is("how group " + group + " is", how, x.group(group, 0));
        Due.is("what group " + group + " holds", held, x.group(group, 2));
        Due.is("what group " + group + " solved", solved, x.group(group, 3));
        Due.is("minutes left to group " + group, left, x.group(group, 4));
        Due.is("hints of group " + group, hints, x.group(group, 5));
    }

    private static void roomIs(Hall x, int room, int how, int toReset, int forgotten, int group) {
        Due.is("how room " + room + " is", how, x.state(room, 0));
        Due.is("what is to be reset in room " + room, toReset, x.state(room, 1));
        Due.is("what was forgotten in room " + room, forgotten, x.state(room, 2));
        Due.is("the group of room " + room, group, x.state(room, 3));
    }

    /** Every call with a group's number, with all else as it should be. */
    private static void isNoGroup(Hall x, int group) {
        Due.noSuch("solve by group " + group, () -> x.solve(group, 0));
        Due.noSuch("hint for group " + group, () -> x.hint(group));
        Due.noSuch("giveUp of group " + group, () -> x.giveUp(group));
        for (int k = 0; k < 6; k++) {
            int what = k;
            Due.noSuch("group " + group + ", " + what, () -> x.group(group, what));
        }
    }

    private static void leaveAndReset(Hall x, int room) {
        x.giveUp(x.state(room, 3));
        x.reset(room, 0, false);
    }

    // ---- promise 9, and who may come

    /** "Groups are numbered from 0 as they are let in, at most 30." Through all rooms together. */
    private static void groupNumbers() {
        Hall x = new Hall();
        for (int room = 0; room < 4; room++) {
            Houses.oneStep(x, 1);
        }
        for (int count = 0; count < 30; count++) {
            int room = (count * 3 + 3) % 4;
            int next = count;
            Due.noSuch("group " + next + " is not there yet", () -> x.group(next, 0));
            Due.is("number of a group", count, x.come(room));
            Due.is("its room", room, x.group(count, 1));
            leaveAndReset(x, room);
        }
        for (int k = 0; k < 4; k++) {
            int room = k;
            Due.notNow("a group 30 for room " + room, () -> x.come(room));
            roomIs(x, room, KeylessHall.READY, 0, 0, NONE);
        }
        for (int group : new int[] {Houses.LEAST, -1, 30, 31, Houses.GREATEST}) {
            isNoGroup(x, group);
        }
        groupIs(x, 0, LOST, 2, 0, 0, 0);
        groupIs(x, 29, LOST, 2, 0, 0, 0);
    }

    /** "IllegalStateException if [..] there were 30": also of those that won at once, and with a booking due. */
    private static void thirtyGroupsInOneRoom() {
        Hall x = new Hall();
        x.room(1);
        x.puzzle(0, 0, 2, NONE, 1);
        for (int count = 0; count < 30; count++) {
            Due.is("group", count, x.come(0));
            x.reset(0, 0, false);
        }
        x.book(0, 0);
        Due.notNow("a group 30 for a booking", () -> x.come(0));
        Due.is("the booking stays OPEN", KeylessHall.OPEN, x.booking(0, 2));
        Due.is("nobody came for it", NONE, x.booking(0, 3));
        isNoGroup(x, 30);
        Due.is("the last group", WON, x.group(29, 0));
    }

    private static void noGroupIsMadeByARefusedCall() {
        Hall x = new Hall();
        x.room(2);
        Due.notNow("come into a room without puzzles", () -> x.come(0));
        isNoGroup(x, 0);
        x.puzzle(0, 2, 1, 0, 1);
        x.prop(0, true);
        Due.notNow("come into a room that cannot be left", () -> x.come(0));
        Due.noSuch("come into room 1", () -> x.come(1));
        Due.noSuch("come into room -1", () -> x.come(-1));
        x.prop(0, false);
        Due.is("the first group", 0, x.come(0));
        Due.notNow("come into a room that is PLAYED", () -> x.come(0));
        isNoGroup(x, 1);
        groupIs(x, 0, PLAYS, 2, 0, 60, 0);
        roomIs(x, 0, KeylessHall.PLAYED, 0, 0, 0);
    }

    /** "A group is let into a room that is READY [..]; the room is PLAYED." */
    private static void comeOnlyIntoReadyRooms() {
        Hall x = new Hall();
        Houses.chainOfEight(x);
        Due.is("READY at first", 0, x.come(0));
        roomIs(x, 0, KeylessHall.PLAYED, 0, 0, 0);
        Due.notNow("PLAYED", () -> x.come(0));
        x.solve(0, 0);
        x.giveUp(0);
        roomIs(x, 0, KeylessHall.DIRTY, 1, 0, NONE);
        Due.notNow("DIRTY", () -> x.come(0));
        x.reset(0, 1, true);
        Due.notNow("RESETTING", () -> x.come(0));
        x.pass(1);
        Due.notNow("RESETTING, by a check", () -> x.come(0));
        x.pass(4);
        Due.notNow("RESETTING, in its last minute", () -> x.come(0));
        x.pass(1);
        Due.is("READY again", 1, x.come(0));
        roomIs(x, 0, KeylessHall.PLAYED, 0, 0, 1);
    }

    /** "A group is let into a room that [..] can be left" */
    private static void comeOnlyIntoRoomsThatCanBeLeft() {
        Hall x = new Hall();
        x.room(4095);
        Due.notNow("the thing 0 lies there, but there is no puzzle", () -> x.come(0));
        x.room(0);
        x.puzzle(1, 0, 2, NONE, 1);
        Due.notNow("a puzzle, but no thing 0", () -> x.come(1));
        x.puzzle(1, 2, 1, 7, 1);
        x.prop(7, true);
        Due.notNow("the puzzle that gives it is out", () -> x.come(1));
        x.prop(7, false);
        Due.is("mended", 0, x.come(1));
        x.puzzle(0, 1, 2, 7, 1);
        x.prop(7, true);
        Due.is("one puzzle, which is out, and the thing 0 lies there", 1, x.come(0));
    }

    // ---- what a group holds at first

    /** "It holds what lies there at first" */
    private static void holdsWhatLiesThereAtFirst() {
        for (int things : new int[] {0, 2, 2048, 4094}) {
            Hall x = new Hall();
            x.room(things);
            x.puzzle(0, 0, 1, NONE, 1);
            x.come(0);
            groupIs(x, 0, PLAYS, things, 0, 60, 0);
        }
    }

    /** A house with a chain of eight, of which the group 0 solved some; nothing is reset yet. */
    private static Hall leftBehind(int solved) {
        Hall x = new Hall();
        Houses.chainOfEight(x);
        x.come(0);
        Houses.solveFirst(x, 0, solved);
        if (solved < 8) {
            x.giveUp(0);
        }
        return x;
    }

    /** "of a puzzle that was forgotten when the room was reset [..]": none was. */
    private static void noneForgotten() {
        Hall x = leftBehind(3);
        x.reset(0, 0, false);
        x.pass(3);
        x.come(0);
        groupIs(x, 1, PLAYS, 2, 0, 60, 0);
    }

    /** "of a puzzle that was forgotten [..], what it gives lies there too, and it counts as solved." */
    private static void oneForgotten() {
        Hall x = leftBehind(3);
        x.reset(0, 0, false);
        x.pass(2);
        Due.is("forget", 0, x.forget(0));
        x.come(0);
        groupIs(x, 1, PLAYS, 6, 1, 60, 0);
        Due.notNow("solve what counts as solved", () -> x.solve(1, 0));
        Due.is("solve the next one", 14, x.solve(1, 1));
        x.giveUp(1);
        roomIs(x, 0, KeylessHall.DIRTY, 3, 1, NONE);
        x.reset(0, 0, false);
        x.pass(2);
        x.come(0);
        groupIs(x, 2, PLAYS, 2, 0, 60, 0);
    }

    private static void sevenForgotten() {
        Hall x = leftBehind(7);
        x.reset(0, 0, false);
        for (int k = 6; k >= 0; k--) {
            Due.is("forget", k, x.forget(0));
        }
        roomIs(x, 0, KeylessHall.READY, 0, 127, NONE);
        x.come(0);
        groupIs(x, 1, PLAYS, 510, 127, 60, 0);
        Due.is("one puzzle is left", 7, x.hint(1));
        Due.is("out by it", 511, x.solve(1, 7));
        roomIs(x, 0, KeylessHall.DIRTY, 255, 127, NONE);
    }

    /** All eight, so that "If it holds the thing 0, also as it comes in, it is out". */
    private static void allForgotten() {
        Hall x = leftBehind(8);
        x.reset(0, 0, false);
        for (int k = 7; k >= 0; k--) {
            Due.is("forget", k, x.forget(0));
        }
        Due.is("the group that comes", 1, x.come(0));
        groupIs(x, 1, WON, 511, 255, 0, 0);
        roomIs(x, 0, KeylessHall.DIRTY, 255, 255, NONE);
    }

    /** "of a puzzle that was forgotten [..]": also of one that is out by now. */
    private static void forgottenThatIsOut() {
        Hall x = new Hall();
        x.room(2);
        x.puzzle(0, 2, 4, 3, 1);
        x.puzzle(0, 2, 1, NONE, 1);
        x.come(0);
        x.solve(0, 0);
        x.giveUp(0);
        x.reset(0, 0, false);
        x.forget(0);
        x.prop(3, true);
        x.come(0);
        groupIs(x, 1, PLAYS, 6, 1, 60, 0);
        x.giveUp(1);
        roomIs(x, 0, KeylessHall.DIRTY, 1, 1, NONE);
    }

    // ---- promise 10

    /** "`puzzle`: a puzzle of its room"; "IndexOutOfBoundsException if there is no such group or puzzle" */
    private static void solveAPuzzleOfItsRoom() {
        Hall x = new Hall();
        Houses.chainOfEight(x);
        Houses.oneStep(x, 1);
        x.come(1);
        x.come(0);
        for (int puzzle : new int[] {Houses.LEAST, -1, 1, 2, 7, 8, Houses.GREATEST}) {
            Due.noSuch("room 1 has no puzzle " + puzzle, () -> x.solve(0, puzzle));
        }
        for (int puzzle : new int[] {Houses.LEAST, -1, 8, 9, 31, 32, Houses.GREATEST}) {
            Due.noSuch("room 0 has no puzzle " + puzzle, () -> x.solve(1, puzzle));
        }
        groupIs(x, 0, PLAYS, 2, 0, 60, 0);
        groupIs(x, 1, PLAYS, 2, 0, 60, 0);
        Houses.solveFirst(x, 1, 7);
        Due.is("its last puzzle", 511, x.solve(1, 7));
        groupIs(x, 0, PLAYS, 2, 0, 60, 0);
        Due.noSuch("no such puzzle, by one that plays no more", () -> x.solve(1, 8));
        Due.is("the only puzzle", 3, x.solve(0, 0));
        Due.noSuch("no such puzzle, by one that plays no more", () -> x.solve(0, 1));
    }

    /** "A group may solve a puzzle that is not out" */
    private static void solveWhatIsNotOut() {
        for (int prop = 0; prop < 8; prop++) {
            Hall x = new Hall();
            x.room(2);
            x.puzzle(0, 2, 1, NONE, 1);
            x.puzzle(0, 2, 4, prop, 1);
            x.come(0);
            x.prop(prop, true);
            Due.notNow("prop " + prop + " is broken", () -> x.solve(0, 1));
            groupIs(x, 0, PLAYS, 2, 0, 60, 0);
            x.prop(prop, false);
            for (int other = 0; other < 8; other++) {
                x.prop(other, other != prop);
            }
            Due.is("all others are broken", 6, x.solve(0, 1));
            x.prop(prop, true);
            Due.is("without a prop", 7, x.solve(0, 0));
        }
    }

    /** "A group may solve a puzzle [..] that it has not solved" */
    private static void solveWhatItHasNotSolved() {
        Hall x = new Hall();
        Houses.chainOfEight(x);
        x.come(0);
        for (int k = 0; k < 7; k++) {
            int puzzle = k;
            x.solve(0, k);
            Due.notNow("solve " + k + " again", () -> x.solve(0, puzzle));
            groupIs(x, 0, PLAYS, (8 << k) - 2, (2 << k) - 1, 60, 0);
        }
    }

    /** "A group may solve a puzzle [..] whose things it holds; it holds what that gives, too, then." */
    private static void solveWithWhatItHolds() {
        for (int thing = 1; thing < 12; thing++) {
            Hall x = new Hall();
            x.room(4094 & ~(1 << thing));
            x.puzzle(0, 4094, 1, NONE, 1);
            x.puzzle(0, 0, 1 << thing, NONE, 1);
            x.come(0);
            Due.notNow("all but the thing " + thing, () -> x.solve(0, 0));
            groupIs(x, 0, PLAYS, 4094 & ~(1 << thing), 0, 60, 0);
            Due.is("one that needs nothing", 4094, x.solve(0, 1));
            Due.is("one that needs just what it holds", 4095, x.solve(0, 0));
        }
        Hall y = new Hall();
        y.room(0);
        y.puzzle(0, 2, 1, NONE, 1);
        y.puzzle(0, 0, 2, NONE, 1);
        y.puzzle(0, 0, 2, NONE, 1);
        y.come(0);
        Due.notNow("it holds nothing", () -> y.solve(0, 0));
        Due.is("with nothing", 2, y.solve(0, 1));
        Due.is("one that gives what it holds already", 2, y.solve(0, 2));
        groupIs(y, 0, PLAYS, 2, 6, 60, 0);
    }

    /** "If it holds the thing 0, [..] it is out: it leaves as one that WON." */
    private static void wonBySolving() {
        Hall x = new Hall();
        x.room(2);
        x.puzzle(0, 2, 4092, NONE, 1);
        x.puzzle(0, 2, 1, NONE, 1);
        x.come(0);
        Due.is("all but the thing 0", 4094, x.solve(0, 0));
        groupIs(x, 0, PLAYS, 4094, 1, 60, 0);
        Due.is("and the thing 0", 4095, x.solve(0, 1));
        groupIs(x, 0, WON, 4095, 3, 0, 0);
        roomIs(x, 0, KeylessHall.DIRTY, 3, 0, NONE);
        Hall y = new Hall();
        y.room(2);
        y.puzzle(0, 2, 4093, NONE, 1);
        y.come(0);
        Due.is("the thing 0 with all others", 4095, y.solve(0, 0));
        groupIs(y, 0, WON, 4095, 1, 0, 0);
    }

    /** "[..] also as it comes in" */
    private static void wonAsItComesIn() {
        for (int things : new int[] {1, 4095}) {
            Hall x = new Hall();
            x.room(things);
            x.puzzle(0, 0, 2, NONE, 1);
            Due.is("come", 0, x.come(0));
            groupIs(x, 0, WON, things, 0, 0, 0);
            roomIs(x, 0, KeylessHall.DIRTY, 0, 0, NONE);
            Due.notNow("it does not play", () -> x.solve(0, 0));
            Due.notNow("the room is DIRTY", () -> x.come(0));
        }
    }

    // ---- the hour

    /** "It has 60 minutes [..]: as soon as as many as that have passed [..], it leaves as one that LOST" */
    private static void theHour() {
        for (int came : new int[] {0, 1, 599}) {
            Hall x = new Hall();
            Houses.oneStep(x, 1);
            Houses.passTo(x, came);
            x.come(0);
            groupIs(x, 0, PLAYS, 2, 0, 60, 0);
            x.pass(1);
            groupIs(x, 0, PLAYS, 2, 0, 59, 0);
            x.pass(58);
            groupIs(x, 0, PLAYS, 2, 0, 1, 0);
            roomIs(x, 0, KeylessHall.PLAYED, 0, 0, 0);
            x.pass(1);
            groupIs(x, 0, LOST, 2, 0, 0, 0);
            roomIs(x, 0, KeylessHall.DIRTY, 0, 0, NONE);
        }
        for (int minutes : new int[] {60, 61, 600}) {
            Hall x = new Hall();
            Houses.oneStep(x, 1);
            x.come(0);
            x.pass(minutes);
            groupIs(x, 0, LOST, 2, 0, 0, 0);
        }
    }

    /** The hour and "Minutes are counted from 0, at most 5000." */
    private static void theHourAtTheEnd() {
        for (int came : new int[] {4940, 4941, 4999, 5000}) {
            Hall x = new Hall();
            Houses.oneStep(x, 1);
            Houses.passTo(x, came);
            Due.is("come", 0, x.come(0));
            Houses.passTo(x, 5000);
            int left = came + 60 - 5000;
            groupIs(x, 0, left == 0 ? LOST : PLAYS, 2, 0, left, 0);
        }
    }

    /** "groups whose time is over leave, by rising rooms", each at its own time. */
    private static void hoursSideBySide() {
        Hall x = new Hall();
        for (int room = 0; room < 4; room++) {
            Houses.oneStep(x, 1);
        }
        for (int room = 3; room >= 0; room--) {
            x.come(room);
            x.pass(1);
        }
        x.pass(55);
        for (int group = 0; group < 4; group++) {
            for (int later = 0; later < 4; later++) {
                Due.is("group " + later, later < group ? LOST : PLAYS, x.group(later, 0));
                Due.is("left to " + later, later < group ? 0 : later - group + 1, x.group(later, 4));
            }
            x.pass(1);
        }
        Due.is("the last one", LOST, x.group(3, 0));
    }

    private static void wonInTheLastMinute() {
        Hall x = new Hall();
        Houses.oneStep(x, 1);
        x.come(0);
        x.pass(59);
        Due.is("solve", 3, x.solve(0, 0));
        groupIs(x, 0, WON, 3, 1, 0, 0);
        x.pass(1);
        groupIs(x, 0, WON, 3, 1, 0, 0);
        roomIs(x, 0, KeylessHall.DIRTY, 1, 0, NONE);
    }

    /** "When a group leaves, the room is DIRTY, with all puzzles that count as solved to be reset." */
    private static void leftByLeaving() {
        for (int solved = 0; solved <= 7; solved++) {
            int set = (1 << solved) - 1;
            Hall x = leftBehind(solved);
            roomIs(x, 0, KeylessHall.DIRTY, set, 0, NONE);
            Hall late = new Hall();
            Houses.chainOfEight(late);
            late.come(0);
            Houses.solveFirst(late, 0, solved);
            roomIs(late, 0, KeylessHall.PLAYED, 0, 0, 0);
            late.pass(60);
            roomIs(late, 0, KeylessHall.DIRTY, set, 0, NONE);
            Hall freed = new Hall();
            Houses.chainOfEight(freed);
            freed.come(0);
            Houses.solveFirst(freed, 0, solved);
            Due.is("the last puzzle breaks", 1, freed.prop(7, true));
            roomIs(freed, 0, KeylessHall.DIRTY, set, 0, NONE);
        }
        roomIs(leftBehind(8), 0, KeylessHall.DIRTY, 255, 0, NONE);
    }

    // ---- promise 11

    /** "It costs 2 minutes, and 3 more for each hint that it got for that puzzle before." */
    private static void hintCosts() {
        Hall x = new Hall();
        Houses.oneStep(x, 1);
        x.come(0);
        int left = 60;
        for (int before = 0; before < 6; before++) {
            Due.is("hint", 0, x.hint(0));
            left -= 2 + 3 * before;
            groupIs(x, 0, PLAYS, 2, 0, left, before + 1);
        }
        Due.is("six hints leave", 3, left);
        Due.is("the seventh, for 20 minutes", 0, x.hint(0));
        groupIs(x, 0, LOST, 2, 0, 0, 7);
        Due.notNow("an eighth", () -> x.hint(0));
        groupIs(x, 0, LOST, 2, 0, 0, 7);
    }

    private static void hintCostsForEachPuzzle() {
        Hall x = new Hall();
        Houses.chainOfEight(x);
        x.come(0);
        int left = 60;
        for (int k = 0; k < 8; k++) {
            Due.is("first hint for " + k, k, x.hint(0));
            left -= 2;
            groupIs(x, 0, PLAYS, (4 << k) - 2, (1 << k) - 1, left, k < 6 ? 2 * k + 1 : k + 7);
            if (k < 6) {
                Due.is("second hint for " + k, k, x.hint(0));
                left -= 5;
                Due.is("left behind it", left, x.group(0, 4));
            }
            if (k < 7) {
                x.solve(0, k);
            }
        }
        Due.is("left at last", 14, x.group(0, 4));
    }

    private static void hintCostsForEachGroup() {
        Hall x = new Hall();
        Houses.oneStep(x, 1);
        Houses.oneStep(x, 1);
        x.come(0);
        x.come(1);
        x.hint(0);
        x.hint(0);
        x.hint(1);
        Due.is("of group 0", 53, x.group(0, 4));
        Due.is("of group 1", 58, x.group(1, 4));
        leaveAndReset(x, 0);
        x.come(0);
        x.hint(2);
        groupIs(x, 2, PLAYS, 2, 0, 58, 1);
    }

    /** "as soon as as many as that have passed since it came, also by a hint, it leaves as one that LOST" */
    private static void hintsUpToTheHour() {
        for (int minutes = 0; minutes < 60; minutes++) {
            Hall x = new Hall();
            Houses.oneStep(x, 1);
            x.come(0);
            Houses.passTo(x, minutes);
            int left = 60 - minutes;
            for (int before = 0; left > 0; before++) {
                Due.is("hint", 0, x.hint(0));
                left -= 2 + 3 * before;
                groupIs(x, 0, left > 0 ? PLAYS : LOST, 2, 0, Math.max(left, 0), before + 1);
            }
            roomIs(x, 0, KeylessHall.DIRTY, 0, 0, NONE);
        }
    }

    // ---- the way of a group

    private static void wayOfOne() {
        Hall x = new Hall();
        x.room(2);
        for (int k = 0; k < 7; k++) {
            x.puzzle(0, 2, 4, NONE, 1);
        }
        x.puzzle(0, 2, 1, NONE, 1);
        x.come(0);
        Due.is("only the last puzzle gives it", 7, x.hint(0));
        Houses.solveFirst(x, 0, 7);
        Due.is("also with all others solved", 7, x.hint(0));
    }

    private static void wayOfEight() {
        Hall x = new Hall();
        x.room(256);
        for (int k = 0; k < 8; k++) {
            x.puzzle(0, 2 << k, 1 << k, NONE, 1);
        }
        x.come(0);
        for (int k = 7; k >= 0; k--) {
            Due.is("all from " + k + " down to 0", k, x.hint(0));
            x.solve(0, k);
        }
        Due.is("out", WON, x.group(0, 0));
    }

    /** "The way of a group is the fewest puzzles [..] by which, one behind the other, it comes to hold the thing 0" */
    private static void wayOfTheFewest() {
        Hall x = new Hall();
        x.room(2);
        // 0 to 4 are a way of five, 5 to 7 one of three, of a greater number.
        for (int k = 0; k < 5; k++) {
            x.puzzle(0, 2 << k, k < 4 ? 4 << k : 1, NONE, 1);
        }
        x.puzzle(0, 2, 64, NONE, 1);
        x.puzzle(0, 64, 128, NONE, 1);
        x.puzzle(0, 128, 1, 0, 1);
        x.come(0);
        Due.is("three ahead of five", 5, x.hint(0));
        Houses.solveFirst(x, 0, 2);
        Due.is("as many are left, and 2, 3, 4 are the least number", 2, x.hint(0));
        x.solve(0, 5);
        Due.is("two ahead of three", 6, x.hint(0));
        x.solve(0, 2);
        Due.is("two of the less number", 3, x.hint(0));
        x.solve(0, 3);
        x.solve(0, 6);
        Due.is("one of the less number", 4, x.hint(0));
    }

    /** "of several the one whose set of puzzles is the least number, the bit k for the puzzle k" */
    private static void wayOfTheLeastNumber() {
        Hall x = new Hall();
        x.room(2);
        // The sets 1 + 128, 2 + 64 and 4 + 32: the last one is the least number.
        int[] gives = {4, 8, 16, 512, 512, 1, 1, 1};
        int[] needs = {2, 2, 2, 2, 2, 16, 8, 4};
        for (int k = 0; k < 8; k++) {
            x.puzzle(0, needs[k], gives[k], k, 1);
        }
        x.come(0);
        Due.is("of 129, 66, and 36", 2, x.hint(0));
        x.prop(5, true);
        Due.is("of 129 and 66", 1, x.hint(0));
        x.prop(6, true);
        Due.is("129", 0, x.hint(0));
        x.room(2);
        x.puzzle(1, 2, 1, NONE, 1);
        x.puzzle(1, 2, 1, NONE, 1);
        x.come(1);
        Due.is("of 1 and 2", 0, x.hint(1));
    }

    /** "the fewest puzzles, not out and not solved" */
    private static void wayOfWhatIsNotOut() {
        Hall x = new Hall();
        x.room(2);
        for (int k = 0; k < 8; k++) {
            x.puzzle(0, 2, 1, k, 1);
        }
        x.come(0);
        for (int k = 0; k < 7; k++) {
            Due.is("the first that is whole", k, x.hint(0));
            x.prop(k, true);
        }
        Due.is("the only one that is whole", 7, x.hint(0));
        x.prop(0, false);
        Due.is("mended", 0, x.hint(0));
        groupIs(x, 0, PLAYS, 2, 0, 60 - 8 * 2 - 5, 9);
    }

    /** "A hint tells the lowest puzzle of its way that it could solve now." */
    private static void lowestThatItCouldSolveNow() {
        Hall x = new Hall();
        x.room(2);
        // The way is 1, 2, 3: 1 needs what 2 and 3 give, and 0 could be solved, but is not in it.
        x.puzzle(0, 2, 32, NONE, 1);
        x.puzzle(0, 12, 1, NONE, 1);
        x.puzzle(0, 2, 4, NONE, 1);
        x.puzzle(0, 2, 8, NONE, 1);
        x.come(0);
        Due.is("neither 0, nor 1, nor 3", 2, x.hint(0));
        x.solve(0, 3);
        Due.is("still 2", 2, x.hint(0));
        x.solve(0, 2);
        Due.is("now 1", 1, x.hint(0));
        groupIs(x, 0, PLAYS, 14, 12, 60 - 2 - 5 - 2, 3);
    }

    // ---- promise 12

    /** "likewise, if it gives up" */
    private static void givesUp() {
        for (int minutes : new int[] {0, 1, 59}) {
            Hall x = new Hall();
            Houses.chainOfEight(x);
            x.come(0);
            x.solve(0, 0);
            Houses.passTo(x, minutes);
            x.giveUp(0);
            groupIs(x, 0, LOST, 6, 1, 0, 0);
            roomIs(x, 0, KeylessHall.DIRTY, 1, 0, NONE);
        }
    }

    /** "IllegalStateException if it does not play": WON, LOST by time, by a hint, or by giving up, FREED. */
    private static void onlyWhilePlaying() {
        Hall x = new Hall();
        for (int room = 0; room < 4; room++) {
            x.room(2);
            x.puzzle(room, 2, 4, NONE, 1);
            x.puzzle(room, 2, 1, room, 1);
            x.come(room);
        }
        x.solve(0, 1);
        x.giveUp(1);
        x.prop(2, true);
        x.pass(60);
        int[] how = {WON, LOST, FREED, LOST};
        for (int k = 0; k < 4; k++) {
            int group = k;
            int solved = k == 0 ? 2 : 0;
            Due.notNow("solve by " + k, () -> x.solve(group, 0));
            Due.notNow("hint for " + k, () -> x.hint(group));
            Due.notNow("giveUp of " + k, () -> x.giveUp(group));
            groupIs(x, k, how[k], k == 0 ? 3 : 2, solved, 0, 0);
            roomIs(x, k, KeylessHall.DIRTY, solved, 0, NONE);
        }
        x.reset(1, 0, false);
        x.come(1);
        Due.notNow("the group ahead of the one that plays there", () -> x.solve(1, 0));
        groupIs(x, 4, PLAYS, 2, 0, 60, 0);
    }

    // ---- FREED

    /** "If a prop breaks while a room is PLAYED [..]" */
    private static void freedWhilePlayed() {
        Hall x = new Hall();
        for (int room = 0; room < 4; room++) {
            x.room(2);
            x.puzzle(room, 2, 4, NONE, 1);
            x.puzzle(room, 2, 1, 0, 1);
        }
        for (int room = 1; room < 4; room++) {
            x.come(room);
        }
        x.giveUp(1);
        x.solve(2, 0);
        x.giveUp(2);
        x.reset(3, 2, true);
        Due.is("of READY, PLAYED, DIRTY, RESETTING", 1, x.prop(0, true));
        roomIs(x, 0, KeylessHall.READY, 0, 0, NONE);
        roomIs(x, 1, KeylessHall.DIRTY, 0, 0, NONE);
        roomIs(x, 2, KeylessHall.DIRTY, 0, 0, NONE);
        roomIs(x, 3, KeylessHall.RESETTING, 1, 0, NONE);
        groupIs(x, 0, FREED, 2, 0, 0, 0);
        groupIs(x, 1, LOST, 2, 0, 0, 0);
        groupIs(x, 2, LOST, 6, 1, 0, 0);
    }

    /** "[..] and the thing 0 cannot be had any more from what the group holds" */
    private static void freedFromWhatItHolds() {
        Hall x = new Hall();
        Houses.chainOfEight(x);
        x.come(0);
        for (int k = 0; k < 7; k++) {
            x.solve(0, k);
            Due.is("what it solved breaks", 0, x.prop(k, true));
            groupIs(x, 0, PLAYS, (8 << k) - 2, (2 << k) - 1, 60, 0);
        }
        Due.holds("the room cannot be left from the beginning", !x.canBeLeft(0));
        Due.is("what it needs still breaks", 1, x.prop(7, true));
        groupIs(x, 0, FREED, 510, 127, 0, 0);
        roomIs(x, 0, KeylessHall.DIRTY, 127, 0, NONE);
        Hall y = new Hall();
        y.room(2);
        for (int k = 0; k < 8; k++) {
            y.puzzle(0, 2, 1, k, 1);
        }
        y.come(0);
        for (int k = 0; k < 7; k++) {
            Due.is("another way is left", 0, y.prop(k, true));
        }
        Due.is("none is left", 1, y.prop(7, true));
        groupIs(y, 0, FREED, 2, 0, 0, 0);
    }

    private static void notFreedByMending() {
        Hall x = new Hall();
        Houses.chainOfEight(x);
        x.come(0);
        x.solve(0, 0);
        x.prop(0, true);
        Due.is("mended", 0, x.prop(0, false));
        Due.is("mended again", 0, x.prop(0, false));
        groupIs(x, 0, PLAYS, 6, 1, 60, 0);
        x.prop(4, true);
        Due.is("mended too late", 0, x.prop(4, false));
        groupIs(x, 0, FREED, 6, 1, 0, 0);
        roomIs(x, 0, KeylessHall.DIRTY, 1, 0, NONE);
    }

    // ---- promise 21

    /** "`what`: 0 how it is, [..] 5 how many hints it got"; "IllegalArgumentException if what is out of range" */
    private static void whatOfAGroup() {
        Hall x = new Hall();
        Houses.oneStep(x, 1);
        x.room(2);
        x.room(2);
        Houses.chainOfEight(x);
        x.come(3);
        for (int what : new int[] {Houses.LEAST, -2, -1, 6, 7, Houses.GREATEST}) {
            Due.outOfRange("group 0, " + what, () -> x.group(0, what));
            Due.noSuch("group 1, " + what, () -> x.group(1, what));
            Due.noSuch("group -1, " + what, () -> x.group(-1, what));
        }
        x.solve(0, 0);
        x.hint(0);
        x.pass(3);
        int[] plays = {PLAYS, 3, 6, 1, 55, 1};
        for (int what = 0; what < 6; what++) {
            Due.is("group 0, " + what, plays[what], x.group(0, what));
        }
        x.giveUp(0);
        int[] left = {LOST, 3, 6, 1, 0, 1};
        for (int what = 0; what < 6; what++) {
            Due.is("group 0 that left, " + what, left[what], x.group(0, what));
        }
        x.reset(3, 0, true);
        x.pass(6);
        x.come(3);
        Due.is("what it held last, while the next one plays", 6, x.group(0, 2));
        Due.is("what it had solved", 1, x.group(0, 3));
    }
}
