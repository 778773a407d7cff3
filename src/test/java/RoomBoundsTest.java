/**
 * Promises 1 to 8, and of 20 what a room without a group tells, at their bounds. Ahead of each test stands the
 * sentence of the document that it holds the class to.
 */
public final class RoomBoundsTest {
    private static final int NONE = KeylessHall.NONE;
    private static final int[] NO_THINGS = {Houses.LEAST, -4096, -4095, -2, -1, 4096, 4097, 8191, Houses.GREATEST};
    private static final int[] NO_PROPS = {Houses.LEAST, -8, -2, 8, 9, 31, 32, Houses.GREATEST};

    private RoomBoundsTest() {
    }

    public static void main(String[] args) {
        aNewObjectIsEmpty();
        objectsShareNothing();
        roomNumbers();
        whatLiesThereAtFirst();
        noThingsOfARoom();
        noFifthRoom();
        aRoomHasNoPuzzlesAtFirst();
        puzzleNumbers();
        needs();
        gives();
        nothingOfItNeeded();
        propOfAPuzzle();
        minutesOfAPuzzle();
        puzzleOnlyIntoReadyRoom();
        propNumbers();
        propsBreakAndAreMended();
        howManyAreFreed();
        hadThings();
        hadFromNoneAndFromAll();
        hadByAChainThatFalls();
        hadAsItIsNow();
        canBeLeftWithAPuzzle();
        canBeLeftFromWhatLiesThere();
        ordersIfItLiesThere();
        ordersOfNone();
        ordersOfMost();
        ordersUpToTheFirstThatGivesTheWayOut();
        ordersFromWhatLiesThereAtFirst();
        whatOfARoom();
        gaps();
        Due.end("RoomBoundsTest");
    }

    // ---- promise 1

    /** "No rooms; the minute 0, no prop broken." */
    private static void aNewObjectIsEmpty() {
        Hall x = new Hall();
        Due.is("the minute", 0, x.minute());
        isNoRoom(x, 0);
        Due.noSuch("group 0", () -> x.group(0, 0));
        Due.noSuch("solve", () -> x.solve(0, 0));
        Due.noSuch("hint", () -> x.hint(0));
        Due.noSuch("giveUp", () -> x.giveUp(0));
        Due.noSuch("booking 0", () -> x.booking(0, 0));
        Due.noSuch("cancel", () -> x.cancel(0));
        for (int crew = 0; crew < 3; crew++) {
            int who = crew;
            for (int what = 0; what < 3; what++) {
                Due.is("crew " + crew + ", " + what, NONE, x.crew(crew, what));
            }
            Due.notNow("forget by " + crew, () -> x.forget(who));
        }
        Houses.chainOfEight(x);
        Due.is("no prop is broken", 511, x.had(0, 2));
    }

    private static void objectsShareNothing() {
        Hall x = new Hall();
        Houses.chainOfEight(x);
        x.come(0);
        x.book(0, 0);
        x.prop(7, true);
        x.pass(1);
        Hall y = new Hall();
        Due.is("minute of the other object", 0, y.minute());
        isNoRoom(y, 0);
        Due.noSuch("its groups", () -> y.group(0, 0));
        Due.noSuch("its bookings", () -> y.booking(0, 0));
        Houses.chainOfEight(y);
        Due.holds("its props are whole", y.canBeLeft(0));
    }

    // ---- promise 2

    /** Every call with a room's number, with all else as it should be. */
    private static void isNoRoom(Hall x, int room) {
        Due.noSuch("puzzle into " + room, () -> x.puzzle(room, 2, 4, NONE, 1));
        Due.noSuch("had in " + room, () -> x.had(room, 2));
        Due.noSuch("canBeLeft " + room, () -> x.canBeLeft(room));
        Due.noSuch("orders " + room, () -> x.orders(room));
        Due.noSuch("ordersAnew " + room, () -> x.ordersAnew(room));
        Due.noSuch("come into " + room, () -> x.come(room));
        Due.noSuch("reset " + room, () -> x.reset(room, 0, false));
        Due.noSuch("book " + room, () -> x.book(room, 0));
        Due.noSuch("offer of " + room, () -> x.offer(room, 0));
        Due.noSuch("state of " + room, () -> x.state(room, 0));
    }

    /** "There are rooms, numbered from 0, at most 4"; "Returns its number." */
    private static void roomNumbers() {
        for (int count = 0; count <= 4; count++) {
            Hall x = new Hall();
            for (int room = 0; room < count; room++) {
                Due.is("number of a room", room, x.room(2));
            }
            for (int room : new int[] {Houses.LEAST, -4, -1, count, count + 1, 4, 5, Houses.GREATEST}) {
                isNoRoom(x, room);
            }
            for (int room = 0; room < count; room++) {
                Due.is("room " + room + " is", KeylessHall.READY, x.state(room, 0));
                Due.is("gap of room " + room, 5, x.state(room, 4));
                Due.is("first puzzle of room " + room, 0, x.puzzle(room, 2, 1, NONE, 1));
                Due.is("group " + room, room, x.come(room));
            }
        }
    }

    /** "`things`: 0 to 4095: what lies there at first, the bit k for the thing k" */
    private static void whatLiesThereAtFirst() {
        int[] things = {0, 1, 2, 2047, 2048, 4093, 4094, 4095};
        for (int k = 0; k < things.length; k += 4) {
            Hall x = new Hall();
            for (int room = 0; room < 4; room++) {
                x.room(things[k + room]);
                x.puzzle(room, 0, 1, NONE, 1);
                x.come(room);
                Due.is("what is held", things[k + room], x.group(room, 2));
                boolean isOpen = things[k + room] % 2 == 1;
                Due.is("how the group is", isOpen ? KeylessHall.WON : KeylessHall.PLAYS, x.group(room, 0));
            }
        }
    }

    /** "Throws `IllegalArgumentException` if things is out of range" */
    private static void noThingsOfARoom() {
        Hall x = new Hall();
        for (int things : NO_THINGS) {
            Due.outOfRange("room(" + things + ")", () -> x.room(things));
        }
        isNoRoom(x, 0);
        Due.is("the first room behind refused ones", 0, x.room(0));
    }

    /** "Throws `IllegalStateException` if there are 4" */
    private static void noFifthRoom() {
        Hall x = new Hall();
        for (int room = 0; room < 4; room++) {
            Due.is("room " + room, room, x.room(4094 + room % 2));
        }
        Due.notNow("a fifth room", () -> x.room(0));
        Due.notNow("a fifth room of all", () -> x.room(4095));
        for (int things : NO_THINGS) {
            Due.outOfRange("a fifth room of " + things, () -> x.room(things));
        }
        isNoRoom(x, 4);
        x.puzzle(3, 0, 1, NONE, 1);
        x.come(3);
        Due.is("the last room keeps its things", 4095, x.group(0, 2));
    }

    /** "Makes a room, without puzzles." */
    private static void aRoomHasNoPuzzlesAtFirst() {
        Hall x = new Hall();
        for (int room = 0; room < 4; room++) {
            x.room(3);
            Due.is("what can be had", 2, x.had(room, 2));
            Due.holds("it cannot be left", !x.canBeLeft(room));
            Due.is("its gap", 5, x.state(room, 4));
            int into = room;
            Due.notNow("nobody may come", () -> x.come(into));
            Due.is("its first puzzle", 0, x.puzzle(room, 2, 1, NONE, 1));
        }
    }

    // ---- promise 3

    /** "It has puzzles, numbered from 0, at most 8"; "IllegalStateException if the room [..] has 8" */
    private static void puzzleNumbers() {
        Hall x = new Hall();
        for (int room = 0; room < 4; room++) {
            x.room(2);
        }
        for (int k = 0; k < 8; k++) {
            for (int room = 3; room >= 0; room--) {
                Due.is("puzzle of room " + room, k, x.puzzle(room, 2, 1, NONE, 10));
            }
        }
        for (int k = 0; k < 4; k++) {
            int room = k;
            Due.notNow("a ninth puzzle of room " + room, () -> x.puzzle(room, 0, 2, 0, 1));
            Due.is("its gap", 85, x.state(room, 4));
            Due.is("its orders", 8, x.orders(room));
            Due.is("what can be had of nothing", 0, x.had(room, 0));
        }
    }

    /** "`needs`: 0 to 4095" */
    private static void needs() {
        Hall x = new Hall();
        x.room(0);
        for (int needs : NO_THINGS) {
            Due.outOfRange("needs " + needs, () -> x.puzzle(0, needs, 2048, NONE, 1));
        }
        int[] some = {0, 1, 2, 1023, 4093, 4094};
        for (int needs : some) {
            x.puzzle(0, needs, ~needs & Houses.ALL_THINGS, NONE, 1);
        }
        Due.is("the six puzzles that were taken", 11, x.state(0, 4));
        // Nothing can be given by one that needs all, so such needs fail for their gives.
        for (int gives : new int[] {1, 2048, 4095}) {
            Due.outOfRange("needs 4095", () -> x.puzzle(0, 4095, gives, NONE, 1));
        }
        Hall y = new Hall();
        for (int room = 0; room < 2; room++) {
            int needed = room == 0 ? 4094 : 4093;
            y.room(0);
            y.puzzle(room, needed, 4095 - needed, NONE, 1);
            Due.is("had of all that is needed", 4095, y.had(room, needed));
            for (int thing = 0; thing < 12; thing++) {
                int held = needed & ~(1 << thing);
                Due.is("had without " + thing, held == needed ? 4095 : held, y.had(room, held));
            }
        }
        y.room(0);
        y.puzzle(2, 0, 4095, NONE, 1);
        Due.is("one that needs nothing", 4095, y.had(2, 0));
    }

    /** "`gives`: 1 to 4095, nothing of it needed" */
    private static void gives() {
        Hall x = new Hall();
        x.room(0);
        Due.outOfRange("gives 0", () -> x.puzzle(0, 2, 0, NONE, 1));
        Due.outOfRange("gives 0, needs 0", () -> x.puzzle(0, 0, 0, NONE, 1));
        for (int gives : NO_THINGS) {
            Due.outOfRange("gives " + gives, () -> x.puzzle(0, 0, gives, NONE, 1));
        }
        Due.is("nothing was put there", 5, x.state(0, 4));
        int[] some = {1, 2, 2048, 4095};
        for (int gives : some) {
            Hall y = new Hall();
            y.room(0);
            Due.is("gives " + gives, 0, y.puzzle(0, 0, gives, NONE, 1));
            Due.is("had by it", gives, y.had(0, 0));
        }
    }

    /** "`gives`: [..] nothing of it needed", for each thing. */
    private static void nothingOfItNeeded() {
        Hall x = new Hall();
        x.room(0);
        for (int thing = 0; thing < 12; thing++) {
            int one = 1 << thing;
            int others = 4095 - one;
            Due.outOfRange("needs and gives " + one, () -> x.puzzle(0, one, one, NONE, 1));
            Due.outOfRange("needs all, gives " + one, () -> x.puzzle(0, 4095, one, NONE, 1));
            Due.outOfRange("needs " + one + ", gives all", () -> x.puzzle(0, one, 4095, NONE, 1));
            Hall y = new Hall();
            y.room(0);
            Due.is("needs the others", 0, y.puzzle(0, others, one, NONE, 1));
            Due.is("gives the others", 1, y.puzzle(0, one, others, NONE, 1));
            Due.is("had of it", 4095, y.had(0, one));
        }
        Due.is("gap", 5, x.state(0, 4));
    }

    /** "`prop`: 0 to 7, or NONE"; "IndexOutOfBoundsException if there is no such room, or prop" */
    private static void propOfAPuzzle() {
        Hall x = new Hall();
        x.room(0);
        for (int prop : NO_PROPS) {
            Due.noSuch("a puzzle with prop " + prop, () -> x.puzzle(0, 0, 2, prop, 1));
        }
        Due.is("gap", 5, x.state(0, 4));
        x.puzzle(0, 0, 1, NONE, 1);
        for (int prop = 0; prop < 7; prop++) {
            x.puzzle(0, 0, 2 << prop, prop, 1);
        }
        x.room(0);
        x.puzzle(1, 0, 256, 7, 1);
        Due.is("none is out", 255, x.had(0, 0));
        for (int prop = 0; prop < 8; prop++) {
            x.prop(prop, true);
            int without = prop < 7 ? 2 << prop : 0;
            Due.is("prop " + prop + " broken", 255 - without, x.had(0, 0));
            Due.is("in the other room", prop == 7 ? 0 : 256, x.had(1, 0));
            x.prop(prop, false);
        }
        for (int prop = 0; prop < 8; prop++) {
            x.prop(prop, true);
        }
        Due.is("all broken, and one puzzle uses none", 1, x.had(0, 0));
        Due.is("in the other room", 0, x.had(1, 0));
    }

    /** "takes 1 to 10 minutes to be reset"; "`minutes`: 1 to 10" */
    private static void minutesOfAPuzzle() {
        Hall x = new Hall();
        x.room(2);
        for (int minutes : new int[] {Houses.LEAST, -10, -1, 0, 11, 12, Houses.GREATEST}) {
            Due.outOfRange("minutes " + minutes, () -> x.puzzle(0, 2, 1, NONE, minutes));
        }
        Due.is("nothing was put there", 5, x.state(0, 4));
        int gap = 5;
        for (int minutes : new int[] {1, 2, 9, 10}) {
            x.puzzle(0, 2, 1, NONE, minutes);
            gap += minutes;
            Due.is("gap", gap, x.state(0, 4));
        }
    }

    /** "IllegalStateException if the room is not READY" */
    private static void puzzleOnlyIntoReadyRoom() {
        Hall x = new Hall();
        x.room(2);
        Due.is("READY at first", 0, x.puzzle(0, 2, 4, NONE, 1));
        x.puzzle(0, 2, 1, NONE, 1);
        x.come(0);
        Due.notNow("PLAYED", () -> x.puzzle(0, 2, 1, NONE, 1));
        x.solve(0, 0);
        x.giveUp(0);
        Due.notNow("DIRTY", () -> x.puzzle(0, 2, 1, NONE, 1));
        x.reset(0, 2, true);
        Due.notNow("RESETTING", () -> x.puzzle(0, 2, 1, NONE, 1));
        x.pass(1);
        Due.notNow("RESETTING, by a check", () -> x.puzzle(0, 2, 1, NONE, 1));
        x.pass(4);
        Due.notNow("in the last minute of the check", () -> x.puzzle(0, 2, 1, NONE, 1));
        Due.is("gap", 7, x.state(0, 4));
        x.pass(1);
        Due.is("READY again", 2, x.puzzle(0, 2, 1, NONE, 1));
        Due.is("gap", 8, x.state(0, 4));
    }

    // ---- promise 4

    /** "`prop`: 0 to 7"; "IndexOutOfBoundsException if there is no such prop" */
    private static void propNumbers() {
        Hall x = new Hall();
        Houses.chainOfEight(x);
        x.come(0);
        for (int prop : NO_PROPS) {
            Due.noSuch("break prop " + prop, () -> x.prop(prop, true));
            Due.noSuch("mend prop " + prop, () -> x.prop(prop, false));
        }
        Due.noSuch("break NONE", () -> x.prop(NONE, true));
        Due.noSuch("mend NONE", () -> x.prop(NONE, false));
        Due.is("nothing is broken", 511, x.had(0, 2));
        Due.is("the group plays", KeylessHall.PLAYS, x.group(0, 0));
        for (int prop = 0; prop < 8; prop++) {
            Hall y = new Hall();
            Houses.chainOfEight(y);
            y.come(0);
            Due.is("break prop " + prop, 1, y.prop(prop, true));
            Due.is("FREED", KeylessHall.FREED, y.group(0, 0));
            Due.is("had up to it", (4 << prop) - 2, y.had(0, 2));
            Due.is("mend prop " + prop, 0, y.prop(prop, false));
            Due.is("had with all", 511, y.had(0, 2));
        }
    }

    /** "Props can be broken, and mended." Also one that is so already. */
    private static void propsBreakAndAreMended() {
        Hall x = new Hall();
        Houses.chainOfEight(x);
        Due.is("mend a whole one", 0, x.prop(3, false));
        Due.is("nothing else comes of that", 511, x.had(0, 2));
        Due.is("break it", 0, x.prop(3, true));
        Due.is("break it again", 0, x.prop(3, true));
        Due.is("had", 30, x.had(0, 2));
        Due.is("mend it once", 0, x.prop(3, false));
        Due.is("it is whole", 511, x.had(0, 2));
        Due.is("mend it again", 0, x.prop(3, false));
        Due.is("it is whole", 511, x.had(0, 2));
        x.prop(0, true);
        x.prop(7, true);
        x.prop(7, false);
        Due.is("the other one stays broken", 2, x.had(0, 2));
    }

    /** "Returns how many groups are FREED by that." None, one, and the most. */
    private static void howManyAreFreed() {
        for (int count = 0; count <= 4; count++) {
            Hall x = new Hall();
            for (int room = 0; room < 4; room++) {
                x.room(2);
                x.puzzle(room, 2, 1, room < count ? 5 : 6, 1);
                x.come(room);
            }
            Due.is("another prop breaks", 0, x.prop(7, true));
            Due.is("prop 5 breaks", count, x.prop(5, true));
            Due.is("prop 5 breaks again", 0, x.prop(5, true));
            for (int group = 0; group < 4; group++) {
                Due.is("group " + group, group < count ? KeylessHall.FREED : KeylessHall.PLAYS, x.group(group, 0));
            }
            Due.is("prop 5 is mended", 0, x.prop(5, false));
            Due.is("prop 6 breaks", 4 - count, x.prop(6, true));
        }
    }

    // ---- promise 5

    /** "`things`: 0 to 4095"; "IllegalArgumentException if things is out of range" */
    private static void hadThings() {
        Hall x = new Hall();
        x.room(2);
        for (int things : NO_THINGS) {
            Due.outOfRange("had from " + things, () -> x.had(0, things));
            Due.noSuch("had from " + things + " in no room", () -> x.had(1, things));
        }
        for (int things : new int[] {0, 1, 2, 2047, 2048, 4094, 4095}) {
            Due.is("had from " + things + " without puzzles", things, x.had(0, things));
        }
    }

    /** "What can be had from a set of things is this set, with what all puzzles give [..]" */
    private static void hadFromNoneAndFromAll() {
        Hall x = new Hall();
        x.room(4095);
        Due.is("not what lies there, but what is told", 0, x.had(0, 0));
        x.puzzle(0, 2, 2048, NONE, 1);
        Due.is("from nothing nothing comes", 0, x.had(0, 0));
        Due.is("from all comes all", 4095, x.had(0, 4095));
        Due.is("the last thing is given", 2050, x.had(0, 2));
        Due.is("the last thing is told", 2048, x.had(0, 2048));
        x.puzzle(0, 2048, 1, NONE, 1);
        Due.is("the last thing is needed", 2049, x.had(0, 2048));
        Due.is("the thing 0 is told", 1, x.had(0, 1));
        x.puzzle(0, 1, 4, NONE, 1);
        Due.is("the thing 0 is needed", 5, x.had(0, 1));
        x.puzzle(0, 0, 8, NONE, 1);
        Due.is("nothing is needed", 8, x.had(0, 0));
    }

    /** "[..] and need things that can be had so." Through all eight puzzles, in both directions. */
    private static void hadByAChainThatFalls() {
        Hall x = new Hall();
        x.room(0);
        x.room(0);
        for (int k = 0; k < 8; k++) {
            x.puzzle(0, 2 << k, 4 << k, k, 1);
            x.puzzle(1, 256 >> k, 512 >> k, NONE, 1);
        }
        Due.is("rising", 1022, x.had(0, 2));
        Due.is("from the middle", 1008, x.had(0, 16));
        Due.is("from the end", 512, x.had(0, 512));
        x.room(0);
        for (int k = 0; k < 8; k++) {
            x.puzzle(2, 4 << (7 - k), 2 << (7 - k), NONE, 1);
        }
        Due.is("rising, from the greatest thing", 1022, x.had(2, 512));
        x.room(0);
        for (int k = 0; k < 8; k++) {
            x.puzzle(3, 2 << (7 - k), 4 << (7 - k), NONE, 1);
        }
        Due.is("falling: the last puzzle comes first", 1022, x.had(3, 2));
        x.prop(7, true);
        Due.is("the last of the chain is out", 510, x.had(0, 2));
        x.prop(0, true);
        Due.is("the first of the chain is out", 2, x.had(0, 2));
        Due.is("had behind it", 508, x.had(0, 4));
    }

    /** "as it is now" */
    private static void hadAsItIsNow() {
        Hall x = new Hall();
        Houses.chainOfEight(x);
        x.come(0);
        Houses.solveFirst(x, 0, 3);
        Due.is("while PLAYED", 511, x.had(0, 2));
        Due.is("what the group holds is not told", 0, x.had(0, 0));
        x.prop(5, true);
        Due.is("behind FREED", 126, x.had(0, 2));
        Due.is("DIRTY", KeylessHall.DIRTY, x.state(0, 0));
        x.reset(0, 0, false);
        x.forget(0);
        Due.is("while RESETTING", 126, x.had(0, 2));
        x.pass(2);
        Due.is("with one that was forgotten", 0, x.had(0, 0));
        x.prop(5, false);
        Due.is("mended", 511, x.had(0, 2));
    }

    // ---- promise 6

    /** "A room can be left, if it has a puzzle [..]" */
    private static void canBeLeftWithAPuzzle() {
        Hall x = new Hall();
        for (int room = 0; room < 4; room++) {
            x.room(1 << room | 1);
            Due.holds("without a puzzle it cannot be left", !x.canBeLeft(room));
            x.puzzle(room, 2048, 1024, 3, 1);
            Due.holds("with any puzzle it can", x.canBeLeft(room));
        }
        x.prop(3, true);
        Due.holds("also if that is out", x.canBeLeft(0) && x.canBeLeft(3));
    }

    /** "[..] and the thing 0 can be had from those that lie there at first." */
    private static void canBeLeftFromWhatLiesThere() {
        Hall x = new Hall();
        x.room(0);
        x.puzzle(0, 2, 1, NONE, 1);
        Due.holds("it needs what does not lie there", !x.canBeLeft(0));
        x.puzzle(0, 0, 4, NONE, 1);
        Due.holds("nor is that given", !x.canBeLeft(0));
        x.puzzle(0, 4, 2, 1, 1);
        Due.holds("now it is", x.canBeLeft(0));
        x.prop(1, true);
        Due.holds("that is out", !x.canBeLeft(0));
        x.prop(1, false);
        Due.holds("that is mended", x.canBeLeft(0));
        x.room(4094);
        x.puzzle(1, 2, 4092, NONE, 1);
        Due.holds("all but the thing 0", !x.canBeLeft(1));
        x.puzzle(1, 4094, 1, NONE, 1);
        Due.holds("with all other things", x.canBeLeft(1));
        x.come(1);
        Due.holds("also while PLAYED", x.canBeLeft(1));
        x.giveUp(0);
        Due.holds("also while DIRTY", x.canBeLeft(1));
        Houses.chainOfEight(x);
        Due.holds("by eight puzzles", x.canBeLeft(2));
        x.prop(7, true);
        Due.holds("the last of them is out", !x.canBeLeft(2));
    }

    // ---- promises 7 and 8

    private static void ordersAre(String what, int want, House x, int room) {
        Due.is("orders, " + what, want, x.orders(room));
        Due.is("ordersAnew, " + what, want, x.ordersAnew(room));
    }

    /** "Returns how many; 1 if it lies there." */
    private static void ordersIfItLiesThere() {
        Hall x = new Hall();
        x.room(1);
        ordersAre("without puzzles", 1, x, 0);
        for (int k = 0; k < 8; k++) {
            x.puzzle(0, 0, 2, 0, 1);
            ordersAre("with puzzles that could be solved", 1, x, 0);
        }
        x.prop(0, true);
        ordersAre("with all of them out", 1, x, 0);
        x.room(4095);
        ordersAre("with all things", 1, x, 1);
    }

    /** "in how many orders [..] up to the one by which the thing 0 is held first": none. */
    private static void ordersOfNone() {
        Hall x = new Hall();
        x.room(0);
        ordersAre("without puzzles", 0, x, 0);
        for (int k = 0; k < 8; k++) {
            x.puzzle(0, 0, 2, NONE, 1);
        }
        ordersAre("eight puzzles, none of which gives it", 0, x, 0);
        x.room(4094);
        ordersAre("all things but that", 0, x, 1);
        x.puzzle(1, 4094, 1, 7, 1);
        ordersAre("by one puzzle", 1, x, 1);
        x.prop(7, true);
        ordersAre("that is out", 0, x, 1);
        x.room(0);
        x.puzzle(2, 2, 1, NONE, 1);
        ordersAre("that needs what is not there", 0, x, 2);
    }

    /** The most orders that eight puzzles have, and the fewest. */
    private static void ordersOfMost() {
        Hall x = new Hall();
        x.room(0);
        x.puzzle(0, 0, 1, NONE, 1);
        for (int k = 0; k < 7; k++) {
            x.puzzle(0, 0, 2, k, 1);
        }
        // The sum of 7! / (7 - k)! for k from 0 to 7: k of the seven ahead of the one that gives the way out.
        ordersAre("one of eight gives it", 13700, x, 0);
        x.prop(0, true);
        ordersAre("one of seven", 1957, x, 0);
        x.prop(0, false);
        x.room(0);
        for (int k = 0; k < 7; k++) {
            x.puzzle(1, 0, 4 << k, NONE, 1);
        }
        x.puzzle(1, 4 * 127, 1, NONE, 1);
        ordersAre("all eight, the last one last", 5040, x, 1);
        Houses.chainOfEight(x);
        ordersAre("a chain of eight", 1, x, 2);
        x.room(0);
        for (int k = 0; k < 8; k++) {
            x.puzzle(3, 0, 1, NONE, 1);
        }
        ordersAre("each of eight gives it", 8, x, 3);
    }

    private static void ordersUpToTheFirstThatGivesTheWayOut() {
        Hall x = new Hall();
        x.room(0);
        x.puzzle(0, 0, 2, NONE, 1);
        x.puzzle(0, 0, 3 << 2 | 1, NONE, 1);
        x.puzzle(0, 0, 1, NONE, 1);
        // 1, 2, 01, 02: nothing comes behind the one that gives it.
        ordersAre("two of three give it", 4, x, 0);
        x.puzzle(0, 2, 1, 4, 1);
        // 03 too.
        ordersAre("a third one by way of another", 5, x, 0);
        x.prop(4, true);
        ordersAre("that is out", 4, x, 0);
    }

    /** "from what lies there at first": who plays, and what was forgotten, makes no difference. */
    private static void ordersFromWhatLiesThereAtFirst() {
        Hall x = new Hall();
        Houses.chainOfEight(x);
        x.puzzle(x.room(0), 0, 2, NONE, 1);
        x.come(0);
        Houses.solveFirst(x, 0, 7);
        ordersAre("while PLAYED", 1, x, 0);
        x.solve(0, 7);
        ordersAre("while DIRTY", 1, x, 0);
        x.reset(0, 0, false);
        x.forget(0);
        ordersAre("while RESETTING", 1, x, 0);
        x.pass(7);
        Due.is("the way out was forgotten", 128, x.state(0, 2));
        ordersAre("the way out was forgotten", 1, x, 0);
        x.prop(7, true);
        ordersAre("and is out", 0, x, 0);
        ordersAre("the other room", 0, x, 1);
    }

    // ---- promise 20

    /** "`what`: 0 how it is, [..] 4 its gap"; "IllegalArgumentException if what is out of range" */
    private static void whatOfARoom() {
        Hall x = new Hall();
        x.room(2);
        for (int what : new int[] {Houses.LEAST, -2, -1, 5, 6, Houses.GREATEST}) {
            Due.outOfRange("state " + what, () -> x.state(0, what));
            Due.noSuch("state " + what + " of no room", () -> x.state(1, what));
        }
        int[] want = {KeylessHall.READY, 0, 0, NONE, 5};
        for (int what = 0; what < want.length; what++) {
            Due.is("state " + what, want[what], x.state(0, what));
        }
    }

    /** "The gap of a room are as many minutes as all its puzzles take to be reset, and 5, together" */
    private static void gaps() {
        Hall x = new Hall();
        x.room(0);
        x.room(0);
        Due.is("gap without puzzles", 5, x.state(0, 4));
        for (int k = 1; k <= 8; k++) {
            x.puzzle(0, 0, 1, k - 1, 10);
            x.puzzle(1, 0, 1, k - 1, 1);
            Due.is("gap of " + k + " long puzzles", 5 + 10 * k, x.state(0, 4));
            Due.is("gap of " + k + " short puzzles", 5 + k, x.state(1, 4));
        }
        x.prop(0, true);
        Due.is("also of those that are out", 85, x.state(0, 4));
        x.come(0);
        Due.is("while PLAYED", 85, x.state(0, 4));
        x.solve(0, 1);
        Due.is("while DIRTY", 85, x.state(0, 4));
        x.reset(0, 0, true);
        Due.is("while RESETTING", 85, x.state(0, 4));
    }
}
