/**
 * Each call that is refused, with all that can be asked before and after it, and with what comes later: "If
 * several exceptions of a throws clause apply, the one that is listed first is thrown. A call of a method that
 * throws an exception changes nothing."
 */
public final class RefusalsTest {
    private static final int NONE = KeylessHall.NONE;
    private static final int LEAST = Houses.LEAST, GREATEST = Houses.GREATEST;

    /** The rooms of the mixed house, by how they are. */
    private static final int READY = 0, PLAYED = 1, DIRTY = 2, RESETTING = 3;
    private static final int ROOMS = 4, GROUPS = 4, BOOKINGS = 5, CREW = 3, PROPS = 8;
    /** Its groups, by how they are. */
    private static final int WON = 0, LOST = 1, FREED = 2, PLAYS = 3;
    /** Its bookings, by how they are. */
    private static final int USED = 0, GONE_UNUSED = 1, OPEN_OF_READY = 2, CANCELLED = 3;
    /** Its crew. */
    private static final int RESETS = 1, IDLE = 2;
    private static final int NOW = 21;

    private static final int[] NO_THINGS = {LEAST, -1, 4096, GREATEST};
    private static final int[] NO_MINUTES = {LEAST, -1, 0, 11, GREATEST};
    private static final int[] NO_PROP_OR_NONE = {LEAST, -2, PROPS, GREATEST};

    private RefusalsTest() {
    }

    public static void main(String[] args) {
        theMixedHouse();
        room();
        puzzleWithoutRoomOrProp();
        puzzleOutOfRange();
        puzzleNotNow();
        prop();
        roomsThatAreAskedFor();
        come();
        comeWithBookings();
        solveWithoutGroupOrPuzzle();
        solveNotNow();
        hintAndGiveUp();
        reset();
        forget();
        bookWithoutRoom();
        bookOutOfRange();
        bookNotNow();
        cancel();
        offer();
        pass();
        whatIsAsked();
        Due.end("RefusalsTest");
    }

    // ---- the houses in which calls are refused

    /** A room in which each puzzle needs what the one ahead gives, and the last one gives the way out by a prop. */
    private static void chain(House x, int puzzles, int prop) {
        int room = x.room(2);
        for (int k = 0; k < puzzles; k++) {
            boolean isLast = k == puzzles - 1;
            x.puzzle(room, 2 << k, isLast ? 1 : 4 << k, isLast ? prop : NONE, isLast ? 1 : 2);
        }
    }

    /** A room, a group and a booking of each kind, and something forgotten, cancelled, hinted and broken. */
    static void mixed(House x) {
        chain(x, 8, 0);
        for (int room = 1; room < ROOMS; room++) {
            chain(x, 3, room);
        }
        Houses.solveFirst(x, x.come(READY), 8);
        x.reset(READY, 0, false);
        x.pass(1);
        x.forget(0);
        x.solve(x.come(DIRTY), 0);
        x.book(PLAYED, 20);
        x.book(DIRTY, 3);
        x.book(READY, 200);
        x.book(RESETTING, 300);
        x.book(RESETTING, 400);
        x.cancel(CANCELLED);
        x.giveUp(LOST);
        Houses.solveFirst(x, x.come(RESETTING), 2);
        x.prop(RESETTING, true);
        Houses.passTo(x, NOW - 1);
        x.solve(x.come(PLAYED), 0);
        x.hint(PLAYS);
        x.reset(RESETTING, RESETS, true);
        x.forget(RESETS);
        x.pass(1);
    }

    /** The test tells nothing if the mixed house is not as its names say. */
    private static void theMixedHouse() {
        Hall x = new Hall();
        mixed(x);
        for (int room = 0; room < ROOMS; room++) {
            Due.is("how room " + room + " is", room, x.state(room, 0));
        }
        int[] groups = {KeylessHall.WON, KeylessHall.LOST, KeylessHall.FREED, KeylessHall.PLAYS};
        for (int group = 0; group < GROUPS; group++) {
            Due.is("how group " + group + " is", groups[group], x.group(group, 0));
        }
        int[] bookings = {KeylessHall.USED, KeylessHall.GONE, KeylessHall.OPEN, KeylessHall.GONE, KeylessHall.OPEN};
        for (int booking = 0; booking < BOOKINGS; booking++) {
            Due.is("how booking " + booking + " is", bookings[booking], x.booking(booking, 2));
        }
        Due.is("forgotten in the READY room", 64, x.state(READY, 2));
        Due.is("forgotten so far in the RESETTING room", 2, x.state(RESETTING, 2));
        Due.is("the puzzle that is reset", 0, x.crew(RESETS, 1));
        Due.is("in how many minutes", 1, x.crew(RESETS, 2));
        Due.is("minutes left", 57, x.group(PLAYS, 4));
        Due.is("now", NOW, x.minute());
        Due.holds("the READY room can be left", x.canBeLeft(READY));
        Due.holds("the RESETTING room cannot be left", !x.canBeLeft(RESETTING));
    }

    /** The mixed house, a while later, with the crew member 1 at the check of the RESETTING room. */
    static void checking(House x) {
        mixed(x);
        x.pass(3);
        Due.is("how the room is", RESETTING, x.crew(RESETS, 0));
        Due.is("the puzzle at the check", NONE, x.crew(RESETS, 1));
    }

    static void thirtyGroups(House x) {
        x.room(1);
        x.puzzle(0, 0, 2, NONE, 1);
        for (int group = 0; group < 30; group++) {
            x.come(0);
            x.reset(0, 0, false);
        }
    }

    /** The bookings of a room with a gap of 6 minutes, at 100, 166 and so on, up to 2014. */
    static void thirtyBookings(House x) {
        chain(x, 1, 0);
        x.pass(50);
        for (int booking = 0; booking < 30; booking++) {
            x.book(0, 100 + 66 * booking);
        }
    }

    private static void atMinute(House x, int minute) {
        mixed(x);
        Houses.passTo(x, minute);
    }

    private static int[] noneOf(int count) {
        return new int[] {LEAST, -1, count, GREATEST};
    }

    // ---- rooms

    private static void room() {
        for (int things : NO_THINGS) {
            Refused.in(house -> { }).outOfRange("room(" + things + ") of none", x -> x.room(things));
            Refused.in(RefusalsTest::mixed).outOfRange("room(" + things + ") of four", x -> x.room(things));
        }
        for (int things : new int[] {0, 1, 2, 4094, 4095}) {
            Refused.in(RefusalsTest::mixed).notNow("room(" + things + ") of four", x -> x.room(things));
        }
    }

    private static void puzzleWithoutRoomOrProp() {
        Refused mixed = Refused.in(RefusalsTest::mixed);
        for (int room : noneOf(ROOMS)) {
            mixed.noSuch("puzzle in room " + room, x -> x.puzzle(room, 2, 1, 0, 1));
            mixed.noSuch("puzzle in room " + room + ", no prop", x -> x.puzzle(room, 2, 1, 8, 1));
            mixed.noSuch("puzzle in room " + room + ", no needs", x -> x.puzzle(room, -1, 1, 0, 1));
            mixed.noSuch("puzzle in room " + room + ", no gives", x -> x.puzzle(room, 2, 0, 0, 1));
            mixed.noSuch("puzzle in room " + room + ", no minutes", x -> x.puzzle(room, 2, 1, 0, 0));
        }
        for (int prop : NO_PROP_OR_NONE) {
            for (int room = 0; room < ROOMS; room++) {
                int place = room;
                String what = "puzzle in room " + room + " with prop " + prop;
                mixed.noSuch(what, x -> x.puzzle(place, 2, 1, prop, 1));
                mixed.noSuch(what + ", no needs", x -> x.puzzle(place, 4096, 1, prop, 1));
                mixed.noSuch(what + ", no gives", x -> x.puzzle(place, 2, 3, prop, 1));
                mixed.noSuch(what + ", no minutes", x -> x.puzzle(place, 2, 1, prop, 11));
            }
            Refused.in(x -> x.room(2)).noSuch("first puzzle, prop " + prop, x -> x.puzzle(0, 2, 1, prop, 1));
        }
    }

    /** In a room that takes a puzzle, and in those that take none: of them, one that is READY has 8. */
    private static void puzzleOutOfRange() {
        puzzleOutOfRangeIn(Refused.in(x -> x.room(2)), 0);
        for (int room = 0; room < ROOMS; room++) {
            puzzleOutOfRangeIn(Refused.in(RefusalsTest::mixed), room);
        }
    }

    private static void puzzleOutOfRangeIn(Refused house, int room) {
        for (int things : NO_THINGS) {
            house.outOfRange("needs " + things, x -> x.puzzle(room, things, 1, NONE, 1));
            house.outOfRange("gives " + things, x -> x.puzzle(room, 0, things, NONE, 1));
            house.outOfRange("needs, gives " + things, x -> x.puzzle(room, things, things, 7, 0));
        }
        house.outOfRange("gives 0", x -> x.puzzle(room, 2, 0, NONE, 1));
        house.outOfRange("gives 0, needs 0", x -> x.puzzle(room, 0, 0, 0, 1));
        house.outOfRange("gives what it needs", x -> x.puzzle(room, 2, 2, NONE, 1));
        house.outOfRange("gives what it needs, and more", x -> x.puzzle(room, 2, 3, NONE, 10));
        house.outOfRange("gives part of what it needs", x -> x.puzzle(room, 4095, 2048, NONE, 1));
        for (int minutes : NO_MINUTES) {
            house.outOfRange("minutes " + minutes, x -> x.puzzle(room, 2, 1, NONE, minutes));
        }
    }

    private static void puzzleNotNow() {
        Refused mixed = Refused.in(RefusalsTest::mixed);
        for (int room = 0; room < ROOMS; room++) {
            int place = room;
            for (int minutes : new int[] {1, 10}) {
                mixed.notNow("puzzle in room " + room, x -> x.puzzle(place, 2, 1, NONE, minutes));
                mixed.notNow("puzzle in room " + room, x -> x.puzzle(place, 0, 4095, 7, minutes));
                mixed.notNow("puzzle in room " + room, x -> x.puzzle(place, 4094, 1, 0, minutes));
            }
        }
        Refused.in(RefusalsTest::checking)
                .notNow("puzzle in a room that is checked", x -> x.puzzle(RESETTING, 2, 1, NONE, 1));
    }

    private static void prop() {
        for (int prop : noneOf(PROPS)) {
            Refused.in(house -> { })
                    .noSuch("break prop " + prop + " of a new house", x -> x.prop(prop, true))
                    .noSuch("mend prop " + prop + " of a new house", x -> x.prop(prop, false));
            Refused.in(RefusalsTest::mixed)
                    .noSuch("break prop " + prop, x -> x.prop(prop, true))
                    .noSuch("mend prop " + prop, x -> x.prop(prop, false));
        }
    }

    private static void roomsThatAreAskedFor() {
        roomsThatAreAskedForIn(Refused.in(house -> { }), 0);
        roomsThatAreAskedForIn(Refused.in(x -> chain(x, 2, NONE)), 1);
        roomsThatAreAskedForIn(Refused.in(RefusalsTest::mixed), ROOMS);
    }

    private static void roomsThatAreAskedForIn(Refused house, int rooms) {
        for (int room : noneOf(rooms)) {
            house.noSuch("had in room " + room, x -> x.had(room, 0));
            house.noSuch("canBeLeft of room " + room, x -> x.canBeLeft(room));
            house.noSuch("orders of room " + room, x -> x.orders(room));
            house.noSuch("ordersAnew of room " + room, x -> x.ordersAnew(room));
            for (int things : NO_THINGS) {
                house.noSuch("had in room " + room + " of " + things, x -> x.had(room, things));
            }
        }
        for (int k = 0; k < rooms; k++) {
            int room = k;
            for (int things : NO_THINGS) {
                house.outOfRange("had in room " + room + " of " + things, x -> x.had(room, things));
            }
        }
    }

    // ---- groups

    private static void come() {
        Refused mixed = Refused.in(RefusalsTest::mixed);
        for (int room : noneOf(ROOMS)) {
            mixed.noSuch("come into room " + room, x -> x.come(room));
        }
        for (int room : noneOf(1)) {
            Refused.in(RefusalsTest::thirtyGroups).noSuch("come into room " + room + " of one", x -> x.come(room));
        }
        for (int room : new int[] {PLAYED, DIRTY, RESETTING}) {
            mixed.notNow("come into room " + room, x -> x.come(room));
        }
        Refused.in(RefusalsTest::checking).notNow("come into a room that is checked", x -> x.come(RESETTING));
        Refused.in(RefusalsTest::thirtyGroups).notNow("come as group 30", x -> x.come(0));
        Refused.in(x -> x.room(1)).notNow("come into a room without puzzles", x -> x.come(0));
        Refused.in(x -> {
            mixed(x);
            x.prop(0, true);
        }).notNow("come into a room that cannot be left any more", x -> x.come(READY));
        Refused.in(x -> {
            mixed(x);
            x.prop(0, true);
            Houses.passTo(x, 200);
        }).notNow("come for a booking into a room that cannot be left", x -> x.come(READY));
    }

    /** The READY room has a gap of 20 minutes and a booking at 200. */
    private static void comeWithBookings() {
        for (int minute : new int[] {121, 185, 199}) {
            Refused.in(x -> atMinute(x, minute)).notNow("come in minute " + minute, x -> x.come(READY));
        }
        Refused.in(x -> {
            thirtyGroups(x);
            x.book(0, 0);
        }).notNow("come as group 30 for a booking", x -> x.come(0));
        Refused.in(x -> {
            mixed(x);
            x.book(DIRTY, NOW);
        }).notNow("come for a booking into a DIRTY room", x -> x.come(DIRTY));
    }

    private static void solveWithoutGroupOrPuzzle() {
        Refused mixed = Refused.in(RefusalsTest::mixed);
        for (int group : noneOf(GROUPS)) {
            for (int puzzle : new int[] {LEAST, -1, 0, 1, 7, 8, GREATEST}) {
                mixed.noSuch("solve " + puzzle + " by group " + group, x -> x.solve(group, puzzle));
            }
        }
        int[] puzzles = {8, 3, 3, 3};
        for (int k = 0; k < GROUPS; k++) {
            int group = k;
            for (int puzzle : noneOf(puzzles[k])) {
                mixed.noSuch("solve " + puzzle + " by group " + group, x -> x.solve(group, puzzle));
            }
        }
        Refused.in(house -> { }).noSuch("solve in a new house", x -> x.solve(0, 0));
    }

    private static void solveNotNow() {
        Refused mixed = Refused.in(RefusalsTest::mixed);
        for (int puzzle = 0; puzzle < 8; puzzle++) {
            int any = puzzle;
            mixed.notNow("solve " + any + " by a group that WON", x -> x.solve(WON, any));
        }
        for (int puzzle = 0; puzzle < 3; puzzle++) {
            int any = puzzle;
            mixed.notNow("solve " + any + " by a group that LOST", x -> x.solve(LOST, any));
            mixed.notNow("solve " + any + " by a group that was FREED", x -> x.solve(FREED, any));
        }
        mixed.notNow("solve what it has solved", x -> x.solve(PLAYS, 0));
        mixed.notNow("solve what it has not the things for", x -> x.solve(PLAYS, 2));
        Refused.in(x -> {
            x.room(2);
            x.puzzle(0, 2, 5, 3, 1);
            x.puzzle(0, 2, 5, 4, 1);
            x.come(0);
            x.prop(3, true);
        }).notNow("solve what is out", x -> x.solve(0, 0));
        Refused.in(x -> {
            mixed(x);
            Houses.solveFirst(x, x.come(READY), 6);
        }).notNow("solve what counts as solved", x -> x.solve(4, 6))
                .notNow("solve again", x -> x.solve(4, 5));
    }

    private static void hintAndGiveUp() {
        Refused mixed = Refused.in(RefusalsTest::mixed);
        for (int group : noneOf(GROUPS)) {
            mixed.noSuch("hint for group " + group, x -> x.hint(group));
            mixed.noSuch("giveUp of group " + group, x -> x.giveUp(group));
        }
        for (int group : new int[] {WON, LOST, FREED}) {
            mixed.notNow("hint for group " + group, x -> x.hint(group));
            mixed.notNow("giveUp of group " + group, x -> x.giveUp(group));
        }
        Refused.in(house -> { })
                .noSuch("hint in a new house", x -> x.hint(0))
                .noSuch("giveUp in a new house", x -> x.giveUp(0));
        Refused.in(x -> atMinute(x, NOW + 57))
                .notNow("hint behind the hour", x -> x.hint(PLAYS))
                .notNow("giveUp behind the hour", x -> x.giveUp(PLAYS))
                .notNow("solve behind the hour", x -> x.solve(PLAYS, 1));
    }

    // ---- resets, bookings, minutes

    private static void reset() {
        Refused mixed = Refused.in(RefusalsTest::mixed);
        for (boolean isChecked : new boolean[] {false, true}) {
            for (int room : noneOf(ROOMS)) {
                for (int crew : new int[] {LEAST, -1, RESETS, IDLE, CREW, GREATEST}) {
                    mixed.noSuch("reset room " + room + " by " + crew, x -> x.reset(room, crew, isChecked));
                }
            }
            for (int crew : noneOf(CREW)) {
                for (int room = 0; room < ROOMS; room++) {
                    int place = room;
                    mixed.noSuch("reset room " + room + " by " + crew, x -> x.reset(place, crew, isChecked));
                }
            }
            for (int room : new int[] {READY, PLAYED, RESETTING}) {
                mixed.notNow("reset room " + room, x -> x.reset(room, IDLE, isChecked));
                mixed.notNow("reset room " + room + ", busy", x -> x.reset(room, RESETS, isChecked));
            }
            mixed.notNow("reset another room", x -> x.reset(DIRTY, RESETS, isChecked));
            Refused.in(RefusalsTest::checking)
                    .notNow("reset another room while they check", x -> x.reset(DIRTY, RESETS, isChecked))
                    .notNow("reset a room that is checked", x -> x.reset(RESETTING, IDLE, isChecked));
        }
    }

    private static void forget() {
        Refused mixed = Refused.in(RefusalsTest::mixed);
        for (int crew : noneOf(CREW)) {
            mixed.noSuch("forget by " + crew, x -> x.forget(crew));
        }
        mixed.notNow("forget by one who was done", x -> x.forget(0));
        mixed.notNow("forget by one who never began", x -> x.forget(IDLE));
        Refused.in(x -> {
            mixed(x);
            x.reset(DIRTY, IDLE, true);
            x.pass(2);
        }).notNow("forget at a check", x -> x.forget(IDLE));
        Refused.in(RefusalsTest::checking).notNow("forget at a check behind what was found", x -> x.forget(RESETS));
        for (int crew = 0; crew < CREW; crew++) {
            int who = crew;
            Refused.in(house -> { }).notNow("forget in a new house", x -> x.forget(who));
        }
    }

    private static void bookWithoutRoom() {
        Refused mixed = Refused.in(RefusalsTest::mixed);
        for (int room : noneOf(ROOMS)) {
            for (int minute : new int[] {LEAST, -1, NOW - 1, NOW, 200, 4940, 4941, GREATEST}) {
                mixed.noSuch("book room " + room + " from " + minute, x -> x.book(room, minute));
            }
        }
        for (int room : noneOf(1)) {
            Refused.in(RefusalsTest::thirtyBookings)
                    .noSuch("book room " + room + ", too near, as booking 30", x -> x.book(room, 100))
                    .noSuch("book room " + room + ", behind now, as booking 30", x -> x.book(room, 49));
        }
    }

    private static void bookOutOfRange() {
        int[] never = {LEAST, -1, 0, NOW - 1, 4941, GREATEST};
        for (int room = 0; room < ROOMS; room++) {
            int place = room;
            for (int minute : never) {
                Refused.in(RefusalsTest::mixed)
                        .outOfRange("book room " + room + " from " + minute, x -> x.book(place, minute));
            }
        }
        for (int minute : new int[] {LEAST, -1, 0, 48, 49, 4941, GREATEST}) {
            Refused.in(RefusalsTest::thirtyBookings)
                    .outOfRange("book from " + minute + " as booking 30", x -> x.book(0, minute));
        }
        Refused.in(x -> {
            x.room(0);
            Houses.passTo(x, 4940);
            x.book(0, 4940);
            x.pass(1);
        }).outOfRange("book from the minute that has passed, too near", x -> x.book(0, 4940))
                .outOfRange("book from now", x -> x.book(0, 4941))
                .outOfRange("book from the last minute", x -> x.book(0, 5000));
    }

    /** The READY room has a gap of 20 minutes and a booking at 200; the PLAYED one a gap of 10 and one at 20. */
    private static void bookNotNow() {
        Refused mixed = Refused.in(RefusalsTest::mixed);
        for (int minute : new int[] {121, 122, 199, 200, 201, 278, 279}) {
            mixed.notNow("book from " + minute, x -> x.book(READY, minute));
        }
        for (int minute : new int[] {NOW, NOW + 1, 88, 89}) {
            mixed.notNow("book from " + minute + " on, behind a USED one", x -> x.book(PLAYED, minute));
        }
        for (int minute : new int[] {50, 100, 133, 2100, 4939, 4940}) {
            Refused.in(RefusalsTest::thirtyBookings)
                    .notNow("book from " + minute + " as booking 30", x -> x.book(0, minute));
        }
        Refused.in(x -> {
            thirtyBookings(x);
            x.cancel(0);
        }).notNow("book from 100 as booking 30, with one GONE", x -> x.book(0, 100));
    }

    private static void cancel() {
        Refused mixed = Refused.in(RefusalsTest::mixed);
        for (int booking : noneOf(BOOKINGS)) {
            mixed.noSuch("cancel booking " + booking, x -> x.cancel(booking));
        }
        for (int booking : new int[] {USED, GONE_UNUSED, CANCELLED}) {
            mixed.notNow("cancel booking " + booking, x -> x.cancel(booking));
        }
        for (int booking : noneOf(30)) {
            Refused.in(RefusalsTest::thirtyBookings).noSuch("cancel booking " + booking, x -> x.cancel(booking));
        }
        Refused.in(house -> { }).noSuch("cancel in a new house", x -> x.cancel(0));
        Refused.in(x -> atMinute(x, 215)).notNow("cancel one that is GONE now", x -> x.cancel(OPEN_OF_READY));
    }

    private static void offer() {
        Refused mixed = Refused.in(RefusalsTest::mixed);
        for (int room : noneOf(ROOMS)) {
            for (int minute : new int[] {LEAST, -1, 0, NOW, 4940, 4941, GREATEST}) {
                mixed.noSuch("offer of room " + room + " from " + minute, x -> x.offer(room, minute));
            }
        }
        for (int room = 0; room < ROOMS; room++) {
            int place = room;
            for (int minute : new int[] {LEAST, -1, 4941, 5000, GREATEST}) {
                mixed.outOfRange("offer of room " + room + " from " + minute, x -> x.offer(place, minute));
            }
        }
        Refused.in(house -> { }).noSuch("offer in a new house", x -> x.offer(0, 0));
    }

    private static void pass() {
        int[] never = {LEAST, -600, -1, 0, 601, 5001, GREATEST};
        for (int minutes : never) {
            Refused.in(house -> { }).outOfRange("pass " + minutes + " in a new house", x -> x.pass(minutes));
            Refused.in(RefusalsTest::mixed).outOfRange("pass " + minutes, x -> x.pass(minutes));
            Refused.in(x -> atMinute(x, 4400)).outOfRange("pass " + minutes + " at 4400", x -> x.pass(minutes));
            Refused.in(x -> atMinute(x, 5000)).outOfRange("pass " + minutes + " at the end", x -> x.pass(minutes));
        }
        for (int minutes : new int[] {1, 2, 599, 600}) {
            Refused.in(x -> atMinute(x, 5001 - minutes))
                    .notNow("pass " + minutes + " up to 5001", x -> x.pass(minutes));
            Refused.in(x -> atMinute(x, 5000)).notNow("pass " + minutes + " at the end", x -> x.pass(minutes));
        }
        // What would end in the minutes that do not come: an hour, a puzzle, a check, the wait for a booking.
        Refused.in(x -> {
            chain(x, 2, 0);
            chain(x, 2, 1);
            chain(x, 2, 2);
            Houses.passTo(x, 4940);
            x.book(2, 4940);
            x.pass(1);
            x.come(0);
            Houses.solveFirst(x, x.come(1), 2);
            Houses.passTo(x, 4954);
            x.reset(1, 1, true);
        }).notNow("pass 47 at 4954", x -> x.pass(47));
    }

    // ---- what is asked

    private static void whatIsAsked() {
        int[] counts = {ROOMS, GROUPS, CREW, BOOKINGS};
        int[] whats = {5, 6, 3, 4};
        for (int kind = 0; kind < counts.length; kind++) {
            int of = kind;
            Refused mixed = Refused.in(RefusalsTest::mixed);
            for (int number : noneOf(counts[kind])) {
                for (int what : new int[] {LEAST, -1, 0, whats[kind] - 1, whats[kind], GREATEST}) {
                    mixed.noSuch(asked(of, number, what), x -> ask(x, of, number, what));
                }
            }
            for (int k = 0; k < counts[kind]; k++) {
                int number = k;
                for (int what : noneOf(whats[kind])) {
                    mixed.outOfRange(asked(of, number, what), x -> ask(x, of, number, what));
                }
            }
        }
    }

    private static String asked(int kind, int number, int what) {
        return new String[] {"state", "group", "crew", "booking"}[kind] + " " + number + ", " + what;
    }

    private static int ask(House x, int kind, int number, int what) {
        switch (kind) {
            case 0:
                return x.state(number, what);
            case 1:
                return x.group(number, what);
            case 2:
                return x.crew(number, what);
            default:
                return x.booking(number, what);
        }
    }
}
