/** Promises 1 to 8, 19, and of 20 what a room without a group tells. */
public final class RoomsTest {
    private static final int NONE = KeylessHall.NONE;

    private RoomsTest() {
    }

    public static void main(String[] args) {
        newObject();
        room();
        puzzle();
        puzzleRefusals();
        puzzleOnlyIntoReadyRoom();
        propsThatBreak();
        had();
        canBeLeft();
        orders();
        ordersWithManyPuzzles();
        stateOfRoom();
        Due.end("RoomsTest");
    }

    private static void newObject() {
        Hall x = new Hall();
        Due.is("minute of a new object", 0, x.minute());
        Due.noSuch("no rooms at first", () -> x.state(0, 0));
        Due.noSuch("no groups at first", () -> x.group(0, 0));
        Due.noSuch("no bookings at first", () -> x.booking(0, 0));
        for (int what = 0; what < 3; what++) {
            Due.is("crew 2 at first, " + what, NONE, x.crew(2, what));
        }
        x.room(2);
        for (int prop = 0; prop < 8; prop++) {
            x.puzzle(0, 2, 4 << prop, prop, 1);
        }
        Due.is("no prop is broken at first", 2 + (255 << 2), x.had(0, 2));
    }

    private static void room() {
        Hall x = new Hall();
        Due.outOfRange("room(-1)", () -> x.room(-1));
        Due.outOfRange("room(4096)", () -> x.room(4096));
        Due.outOfRange("room(least)", () -> x.room(Integer.MIN_VALUE));
        Due.is("room(0)", 0, x.room(0));
        Due.is("room(4095)", 1, x.room(4095));
        Due.is("room(1)", 2, x.room(1));
        Due.is("room(2)", 3, x.room(2));
        Due.notNow("a fifth room", () -> x.room(2));
        Due.outOfRange("a fifth room with wrong things", () -> x.room(4096));
        Due.noSuch("the fifth room", () -> x.state(4, 0));
    }

    private static void puzzle() {
        Hall x = new Hall();
        x.room(2);
        x.room(2);
        Due.is("first puzzle", 0, x.puzzle(0, 0, 4095, NONE, 1));
        Due.is("second puzzle", 1, x.puzzle(0, 4094, 1, 7, 10));
        Due.is("first puzzle of the other room", 0, x.puzzle(1, 2, 1, 0, 5));
        for (int k = 2; k < 8; k++) {
            Due.is("puzzle " + k, k, x.puzzle(0, 2, 4, NONE, 1));
        }
        Due.notNow("a ninth puzzle", () -> x.puzzle(0, 2, 4, NONE, 1));
        Due.is("the other room takes more", 1, x.puzzle(1, 2, 4, NONE, 1));
    }

    private static void puzzleRefusals() {
        Hall x = new Hall();
        Due.noSuch("puzzle without rooms", () -> x.puzzle(0, 2, 4, NONE, 1));
        x.room(2);
        Due.noSuch("puzzle of room -1", () -> x.puzzle(-1, 2, 4, NONE, 1));
        Due.noSuch("puzzle of room 1", () -> x.puzzle(1, 9999, 4, NONE, 1));
        Due.noSuch("puzzle with prop 8", () -> x.puzzle(0, 2, 4, 8, 99));
        Due.noSuch("puzzle with prop -2", () -> x.puzzle(0, 2, 4, -2, 1));
        Due.outOfRange("needs -1", () -> x.puzzle(0, -1, 4, NONE, 1));
        Due.outOfRange("needs 4096", () -> x.puzzle(0, 4096, 4, NONE, 1));
        Due.outOfRange("gives 0", () -> x.puzzle(0, 2, 0, NONE, 1));
        Due.outOfRange("gives -1", () -> x.puzzle(0, 0, -1, NONE, 1));
        Due.outOfRange("gives 4096", () -> x.puzzle(0, 0, 4096, NONE, 1));
        Due.outOfRange("gives what it needs", () -> x.puzzle(0, 6, 12, NONE, 1));
        Due.outOfRange("minutes 0", () -> x.puzzle(0, 2, 4, NONE, 0));
        Due.outOfRange("minutes 11", () -> x.puzzle(0, 2, 4, NONE, 11));
        Due.is("a refused puzzle is none", 5, x.state(0, 4));
        Due.is("the first puzzle after refusals", 0, x.puzzle(0, 2, 4, NONE, 10));
        Due.is("gap", 15, x.state(0, 4));
    }

    private static void puzzleOnlyIntoReadyRoom() {
        Hall x = new Hall();
        x.room(2);
        x.puzzle(0, 2, 4, NONE, 5);
        x.puzzle(0, 4, 1, NONE, 5);
        x.come(0);
        x.solve(0, 0);
        Due.notNow("puzzle while PLAYED", () -> x.puzzle(0, 2, 4, NONE, 1));
        Due.outOfRange("wrong puzzle while PLAYED", () -> x.puzzle(0, 2, 4, NONE, 0));
        x.giveUp(0);
        Due.notNow("puzzle while DIRTY", () -> x.puzzle(0, 2, 4, NONE, 1));
        x.reset(0, 0, false);
        Due.notNow("puzzle while RESETTING", () -> x.puzzle(0, 2, 4, NONE, 1));
        x.pass(5);
        Due.is("puzzle when READY again", 2, x.puzzle(0, 2, 4, NONE, 1));
    }

    private static void propsThatBreak() {
        Hall x = new Hall();
        Due.noSuch("prop -1", () -> x.prop(-1, true));
        Due.noSuch("prop 8", () -> x.prop(8, false));
        Due.is("a prop of no puzzle breaks", 0, x.prop(7, true));
        for (int k = 0; k < 4; k++) {
            x.room(2);
            x.puzzle(k, 2, 1, 3, 2);
        }
        x.puzzle(3, 2, 1, 4, 2);
        for (int k = 0; k < 4; k++) {
            x.come(k);
        }
        x.giveUp(0);
        Due.is("prop 3 breaks: rooms 1 and 2 have no other puzzle", 2, x.prop(3, true));
        Due.is("how the group is that gave up", KeylessHall.LOST, x.group(0, 0));
        Due.is("how group 1 is", KeylessHall.FREED, x.group(1, 0));
        Due.is("how group 2 is", KeylessHall.FREED, x.group(2, 0));
        Due.is("how group 3 is", KeylessHall.PLAYS, x.group(3, 0));
        Due.is("how room 1 is", KeylessHall.DIRTY, x.state(1, 0));
        Due.is("the group of room 1", NONE, x.state(1, 3));
        Due.is("the group of room 3", 3, x.state(3, 3));
        Due.is("prop 3 breaks again", 0, x.prop(3, true));
        Due.is("prop 3 is mended", 0, x.prop(3, false));
        Due.is("prop 4 breaks while 3 is whole", 0, x.prop(4, true));
        Due.is("prop 3 breaks while 4 is broken", 1, x.prop(3, true));
    }

    private static void had() {
        Hall x = new Hall();
        x.room(2);
        x.puzzle(0, 8, 16, NONE, 1);
        x.puzzle(0, 4, 8, 5, 1);
        x.puzzle(0, 2, 4, NONE, 1);
        x.puzzle(0, 96, 1, NONE, 1);
        Due.noSuch("had in room 1", () -> x.had(1, 5000));
        Due.noSuch("had in room -1", () -> x.had(-1, 0));
        Due.outOfRange("had from -1", () -> x.had(0, -1));
        Due.outOfRange("had from 4096", () -> x.had(0, 4096));
        Due.is("had from nothing", 0, x.had(0, 0));
        Due.is("had in a chain that falls", 30, x.had(0, 2));
        Due.is("had from 32", 32, x.had(0, 32));
        Due.is("had from 32 and 64", 97, x.had(0, 96));
        Due.is("had from all", 4095, x.had(0, 4095));
        x.prop(5, true);
        Due.is("had with prop 5 broken", 6, x.had(0, 2));
        Due.is("had behind the puzzle that is out", 24, x.had(0, 8));
        x.prop(5, false);
        Due.is("had with prop 5 mended", 30, x.had(0, 2));
    }

    private static void canBeLeft() {
        Hall x = new Hall();
        Due.noSuch("canBeLeft of no room", () -> x.canBeLeft(0));
        x.room(1);
        Due.holds("a room without puzzles cannot be left", !x.canBeLeft(0));
        x.puzzle(0, 2, 4, 0, 1);
        Due.holds("with a puzzle it can", x.canBeLeft(0));
        x.prop(0, true);
        Due.holds("also when that is out", x.canBeLeft(0));
        x.room(2);
        x.puzzle(1, 2, 4, NONE, 1);
        Due.holds("no puzzle gives the way out", !x.canBeLeft(1));
        x.puzzle(1, 4, 1, 1, 1);
        Due.holds("now one does", x.canBeLeft(1));
        x.prop(1, true);
        Due.holds("that is out", !x.canBeLeft(1));
        x.prop(1, false);
        Due.holds("that is mended", x.canBeLeft(1));
        Due.noSuch("canBeLeft(-1)", () -> x.canBeLeft(-1));
        Due.noSuch("canBeLeft(2)", () -> x.canBeLeft(2));
    }

    private static void ordersAre(Hall x, int room, int want) {
        Due.is("orders(" + room + ")", want, x.orders(room));
        Due.is("ordersAnew(" + room + ")", want, x.ordersAnew(room));
    }

    private static void orders() {
        Hall x = new Hall();
        Due.noSuch("orders of no room", () -> x.orders(0));
        Due.noSuch("ordersAnew of no room", () -> x.ordersAnew(0));
        x.room(1);
        ordersAre(x, 0, 1);
        x.puzzle(0, 1, 2, NONE, 1);
        ordersAre(x, 0, 1);
        x.room(2);
        ordersAre(x, 1, 0);
        x.puzzle(1, 2, 4, NONE, 1);
        ordersAre(x, 1, 0);
        x.puzzle(1, 4, 1, NONE, 1);
        ordersAre(x, 1, 1);
        // A puzzle that gives nothing new is solved in some of the orders too.
        x.puzzle(1, 2, 4, 0, 1);
        ordersAre(x, 1, 4);
        x.puzzle(1, 2, 1, 1, 1);
        ordersAre(x, 1, 9);
        x.prop(0, true);
        ordersAre(x, 1, 3);
        x.prop(1, true);
        ordersAre(x, 1, 1);
        Due.noSuch("orders(-1)", () -> x.orders(-1));
        Due.noSuch("ordersAnew(2)", () -> x.ordersAnew(2));
    }

    private static void ordersWithManyPuzzles() {
        Hall x = new Hall();
        x.room(0);
        for (int k = 0; k < 7; k++) {
            x.puzzle(0, 0, 2, NONE, 1);
        }
        ordersAre(x, 0, 0);
        x.puzzle(0, 0, 1, NONE, 1);
        // The sum of 7! / (7 - k)! for k from 0 to 7.
        ordersAre(x, 0, 13700);
        x.room(0);
        for (int k = 0; k < 8; k++) {
            x.puzzle(1, 0, 1, NONE, 1);
        }
        ordersAre(x, 1, 8);
        x.room(0);
        for (int k = 0; k < 7; k++) {
            x.puzzle(2, 0, 2 << k, NONE, 1);
        }
        x.puzzle(2, 254, 1, NONE, 1);
        ordersAre(x, 2, 5040);
        ordersAre(x, 0, 13700);
    }

    private static void stateOfRoom() {
        Hall x = new Hall();
        Due.noSuch("state of no room", () -> x.state(0, 9));
        x.room(2);
        Due.is("a room is READY at first", KeylessHall.READY, x.state(0, 0));
        Due.is("nothing is to be reset", 0, x.state(0, 1));
        Due.is("nothing was forgotten", 0, x.state(0, 2));
        Due.is("no group", NONE, x.state(0, 3));
        Due.is("gap without puzzles", 5, x.state(0, 4));
        x.puzzle(0, 2, 1, NONE, 10);
        x.puzzle(0, 2, 1, 3, 7);
        x.prop(3, true);
        Due.is("gap of all puzzles, also those that are out", 22, x.state(0, 4));
        Due.outOfRange("state what -1", () -> x.state(0, -1));
        Due.outOfRange("state what 5", () -> x.state(0, 5));
        Due.noSuch("state of room -1", () -> x.state(-1, 0));
    }
}
