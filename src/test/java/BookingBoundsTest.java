/**
 * Promises 15 to 19 and 23, and what "Terms" says of bookings and of a minute, at their bounds. Ahead of each test
 * stands the sentence of the document that it holds the class to.
 */
public final class BookingBoundsTest {
    private static final int NONE = KeylessHall.NONE;
    private static final int OPEN = KeylessHall.OPEN, USED = KeylessHall.USED, GONE = KeylessHall.GONE;
    /** How many puzzles of 10 minutes a room has, and how far apart its bookings begin at least. */
    private static final int[] PUZZLES = {0, 1, 8};
    private static final int[] DISTANCES = {65, 75, 145};

    private BookingBoundsTest() {
    }

    public static void main(String[] args) {
        bookingNumbers();
        thirtyBookings();
        minutesFromNowOn();
        minutesAtTheEnd();
        gapBehindABooking();
        gapAheadOfABooking();
        gapBetweenTwo();
        gapOfUsedAndGoneOnes();
        gapOfOtherRooms();
        gapByPuzzlesThatComeLater();
        goneInTheFifteenthMinute();
        goneAtTheEnd();
        goneByCancelling();
        onlyOpenOnesAreCancelled();
        comeAtItsMinute();
        comeForTheLowest();
        comeForOneOfTheRoom();
        comeWithoutBooking();
        onlyOpenOnesKeepOthersOut();
        nextOneDoesNotMatterWithADueOne();
        offerMinutes();
        offerNotAheadOfNow();
        offerIsTheFirst();
        offerBetweenTwo();
        offerNone();
        offerHoweverManyThereWere();
        passMinutes();
        passUpToTheEnd();
        passOneByOneOrAtOnce();
        allThatEndsInOneMinute();
        lastCall();
        whatOfABooking();
        Due.end("BookingBoundsTest");
    }

    private static void bookingIs(Hall x, int booking, int room, int minute, int how, int group) {
        Due.is("the room of booking " + booking, room, x.booking(booking, 0));
        Due.is("the minute of booking " + booking, minute, x.booking(booking, 1));
        Due.is("how booking " + booking + " is", how, x.booking(booking, 2));
        Due.is("the group of booking " + booking, group, x.booking(booking, 3));
    }

    private static void isNoBooking(Hall x, int booking) {
        Due.noSuch("cancel " + booking, () -> x.cancel(booking));
        for (int k = 0; k < 4; k++) {
            int what = k;
            Due.noSuch("booking " + booking + ", " + what, () -> x.booking(booking, what));
        }
    }

    /** A room with so many puzzles of 10 minutes, each of which gives the way out. */
    private static void addRoom(Hall x, int puzzles) {
        int room = x.room(2);
        for (int k = 0; k < puzzles; k++) {
            x.puzzle(room, 2, 1, NONE, 10);
        }
    }

    private static Hall house(int puzzles) {
        Hall x = new Hall();
        addRoom(x, puzzles);
        return x;
    }

    private static void leaveAndReset(Hall x, int room) {
        x.giveUp(x.state(room, 3));
        x.reset(room, 0, false);
    }

    // ---- promise 15

    /** "Bookings are numbered from 0, at most 30": through all rooms together. */
    private static void bookingNumbers() {
        Hall x = new Hall();
        for (int room = 0; room < 4; room++) {
            addRoom(x, room);
        }
        for (int count = 0; count < 30; count++) {
            isNoBooking(x, count);
            int room = (count * 3 + 3) % 4;
            Due.is("number of a booking", count, x.book(room, 200 * (count / 4)));
            bookingIs(x, count, room, 200 * (count / 4), OPEN, NONE);
        }
        for (int k = 0; k < 4; k++) {
            int room = k;
            Due.notNow("a booking 30 of room " + room, () -> x.book(room, 4000));
        }
        for (int booking : new int[] {Houses.LEAST, -1, 30, 31, Houses.GREATEST}) {
            isNoBooking(x, booking);
        }
    }

    /** "IllegalStateException if [..] there were 30": also of those that are USED or GONE by now. */
    private static void thirtyBookings() {
        Hall x = house(1);
        x.book(0, 0);
        x.come(0);
        for (int k = 1; k < 28; k++) {
            Due.is("booking", k, x.book(0, 75));
            x.cancel(k);
        }
        Due.is("booking 28", 28, x.book(0, 75));
        x.pass(90);
        Due.is("booking 29", 29, x.book(0, 4940));
        Due.notNow("a booking 30", () -> x.book(0, 400));
        x.cancel(29);
        Due.notNow("with all of them GONE or USED", () -> x.book(0, 400));
        Due.outOfRange("ahead of now", () -> x.book(0, 89));
        Due.outOfRange("behind the end", () -> x.book(0, 4941));
        Due.noSuch("of no room", () -> x.book(1, 400));
        bookingIs(x, 0, 0, 0, USED, 0);
        bookingIs(x, 28, 0, 75, GONE, NONE);
        isNoBooking(x, 30);
    }

    /** "`minute`: now to 4940" */
    private static void minutesFromNowOn() {
        for (int now : new int[] {0, 1, 100}) {
            Hall x = house(1);
            Houses.passTo(x, now);
            for (int minute : new int[] {Houses.LEAST, -1, now - 1, 4941, 5000, Houses.GREATEST}) {
                Due.outOfRange("book " + minute + " at " + now, () -> x.book(0, minute));
            }
            isNoBooking(x, 0);
            Due.is("book now", 0, x.book(0, now));
            Due.is("book the last minute", 1, x.book(0, 4940));
            Due.outOfRange("book ahead of now, near another one", () -> x.book(0, now - 1));
            Due.outOfRange("book behind the last minute, near another one", () -> x.book(0, 4941));
            bookingIs(x, 0, 0, now, OPEN, NONE);
            bookingIs(x, 1, 0, 4940, OPEN, NONE);
            Due.is("book the next but last minutes", 2, x.book(0, 4940 - 75));
            Due.is("book soon", 3, x.book(0, now + 75));
        }
    }

    private static void minutesAtTheEnd() {
        Hall x = house(0);
        Houses.passTo(x, 4939);
        Due.outOfRange("4938 at 4939", () -> x.book(0, 4938));
        Due.is("4940 at 4939", 0, x.book(0, 4940));
        x.cancel(0);
        x.pass(1);
        Due.outOfRange("4939 at 4940", () -> x.book(0, 4939));
        Due.outOfRange("4941 at 4940", () -> x.book(0, 4941));
        Due.is("4940 at 4940", 1, x.book(0, 4940));
        x.cancel(1);
        for (int now : new int[] {4941, 5000}) {
            Houses.passTo(x, now);
            for (int minute : new int[] {4939, 4940, 4941, 4999, 5000, 5001}) {
                Due.outOfRange(minute + " at " + now, () -> x.book(0, minute));
            }
        }
        isNoBooking(x, 2);
    }

    /** "between the end of a booking, 60 minutes behind its minute, and the next one [..] its gap at least" */
    private static void gapBehindABooking() {
        for (int k = 0; k < PUZZLES.length; k++) {
            int far = DISTANCES[k];
            Hall x = house(PUZZLES[k]);
            x.book(0, 1000);
            for (int minute : new int[] {1000, 1001, 1059, 1060, 1061, 1000 + far - 2, 1000 + far - 1}) {
                Due.notNow("book " + minute, () -> x.book(0, minute));
            }
            isNoBooking(x, 1);
            Due.is("book " + (1000 + far), 1, x.book(0, 1000 + far));
        }
    }

    /** The same sentence for a booking that is booked behind the next one. */
    private static void gapAheadOfABooking() {
        for (int k = 0; k < PUZZLES.length; k++) {
            int far = DISTANCES[k];
            Hall x = house(PUZZLES[k]);
            x.book(0, 1000);
            for (int minute : new int[] {999, 941, 940, 939, 1000 - far + 2, 1000 - far + 1}) {
                Due.notNow("book " + minute, () -> x.book(0, minute));
            }
            isNoBooking(x, 1);
            Due.is("book " + (1000 - far), 1, x.book(0, 1000 - far));
        }
    }

    private static void gapBetweenTwo() {
        for (int k = 0; k < PUZZLES.length; k++) {
            int far = DISTANCES[k];
            Hall x = house(PUZZLES[k]);
            x.book(0, 1000);
            x.book(0, 1000 + 2 * far);
            Due.notNow("near the first one", () -> x.book(0, 1000 + far - 1));
            Due.notNow("near the second one", () -> x.book(0, 1000 + far + 1));
            Due.is("between them", 2, x.book(0, 1000 + far));
            x.book(0, 3000);
            x.book(0, 3000 + 2 * far - 1);
            Due.notNow("not between two that are nearer", () -> x.book(0, 3000 + far));
            Due.notNow("nor a minute ahead of that", () -> x.book(0, 3000 + far - 1));
        }
    }

    /** "(of those that are OPEN or USED)" */
    private static void gapOfUsedAndGoneOnes() {
        Hall x = house(1);
        x.book(0, 0);
        Due.notNow("near an OPEN one", () -> x.book(0, 74));
        x.come(0);
        x.solve(0, 0);
        Due.notNow("near a USED one, when its group has left", () -> x.book(0, 74));
        Due.is("offer", 75, x.offer(0, 0));
        Due.is("far enough from a USED one", 1, x.book(0, 75));
        x.cancel(1);
        Due.is("at the minute of one that was cancelled", 2, x.book(0, 75));
        x.pass(90);
        bookingIs(x, 2, 0, 75, GONE, NONE);
        Due.is("near one for that nobody came", 3, x.book(0, 90));
        Due.notNow("near the OPEN one", () -> x.book(0, 164));
    }

    /** "the next one of the room" */
    private static void gapOfOtherRooms() {
        Hall x = new Hall();
        for (int room = 0; room < 4; room++) {
            addRoom(x, 8);
        }
        for (int room = 0; room < 4; room++) {
            Due.is("each room at the same minute", room, x.book(room, 10));
        }
        for (int k = 0; k < 4; k++) {
            int room = k;
            Due.notNow("again", () -> x.book(room, 10));
            Due.is("offer", 155, x.offer(room, 10));
        }
    }

    private static void gapByPuzzlesThatComeLater() {
        Hall x = house(0);
        x.book(0, 100);
        x.book(0, 165);
        for (int k = 0; k < 8; k++) {
            x.puzzle(0, 2, 1, NONE, 10);
        }
        bookingIs(x, 0, 0, 100, OPEN, NONE);
        bookingIs(x, 1, 0, 165, OPEN, NONE);
        Due.notNow("nearer than the gap of now", () -> x.book(0, 309));
        Due.is("as far as the gap of now", 2, x.book(0, 310));
        x.cancel(2);
        Due.is("offer", 310, x.offer(0, 0));
        x.cancel(1);
        Due.is("offer", 245, x.offer(0, 0));
    }

    // ---- OPEN, USED, GONE

    /** "GONE, [..] in the minute that is 15 behind its own, when nobody came for it" */
    private static void goneInTheFifteenthMinute() {
        for (int minute : new int[] {0, 1, 50}) {
            Hall x = house(1);
            x.book(0, minute);
            Houses.passTo(x, minute + 14);
            bookingIs(x, 0, 0, minute, OPEN, NONE);
            x.pass(1);
            bookingIs(x, 0, 0, minute, GONE, NONE);
            Due.is("come without a booking", 0, x.come(0));
            bookingIs(x, 0, 0, minute, GONE, NONE);
            Hall y = house(1);
            y.book(0, minute);
            Houses.passTo(y, minute + 14);
            Due.is("come for it in the last minute", 0, y.come(0));
            bookingIs(y, 0, 0, minute, USED, 0);
            y.pass(1);
            bookingIs(y, 0, 0, minute, USED, 0);
            y.pass(600);
            bookingIs(y, 0, 0, minute, USED, 0);
        }
        Hall z = house(1);
        z.book(0, 14);
        z.book(0, 89);
        z.book(0, 164);
        z.pass(104);
        bookingIs(z, 0, 0, 14, GONE, NONE);
        bookingIs(z, 1, 0, 89, GONE, NONE);
        bookingIs(z, 2, 0, 164, OPEN, NONE);
    }

    private static void goneAtTheEnd() {
        Hall x = house(1);
        x.book(0, 4940);
        Houses.passTo(x, 4954);
        bookingIs(x, 0, 0, 4940, OPEN, NONE);
        x.pass(1);
        bookingIs(x, 0, 0, 4940, GONE, NONE);
        Houses.passTo(x, 5000);
        bookingIs(x, 0, 0, 4940, GONE, NONE);
    }

    // ---- promise 16

    /** "A booking is [..] GONE, when it is cancelled": ahead of its minute, in it, and up to 14 behind it. */
    private static void goneByCancelling() {
        for (int now : new int[] {0, 19, 20, 21, 34}) {
            Hall x = house(1);
            x.book(0, 20);
            x.book(0, 95);
            Houses.passTo(x, now);
            x.cancel(0);
            bookingIs(x, 0, 0, 20, GONE, NONE);
            bookingIs(x, 1, 0, 95, OPEN, NONE);
            Due.is("offer", now <= 20 ? now : 170, x.offer(0, 0));
        }
    }

    /** "IllegalStateException if it is not OPEN" */
    private static void onlyOpenOnesAreCancelled() {
        Hall x = house(1);
        x.book(0, 0);
        x.book(0, 75);
        x.book(0, 150);
        x.come(0);
        Due.notNow("USED", () -> x.cancel(0));
        x.solve(0, 0);
        Due.notNow("USED, and its group has left", () -> x.cancel(0));
        x.cancel(1);
        Due.notNow("cancelled", () -> x.cancel(1));
        x.pass(164);
        bookingIs(x, 2, 0, 150, OPEN, NONE);
        x.pass(1);
        Due.notNow("nobody came", () -> x.cancel(2));
        bookingIs(x, 0, 0, 0, USED, 0);
        bookingIs(x, 1, 0, 75, GONE, NONE);
        bookingIs(x, 2, 0, 150, GONE, NONE);
        isNoBooking(x, 3);
        isNoBooking(x, -1);
    }

    // ---- who may come

    /** "A group comes for the lowest booking [..] whose minute is now or was before" */
    private static void comeAtItsMinute() {
        for (int now : new int[] {20, 21, 34}) {
            Hall x = house(1);
            x.book(0, 20);
            Houses.passTo(x, now);
            Due.is("come at " + now, 0, x.come(0));
            bookingIs(x, 0, 0, 20, USED, 0);
        }
        for (int now : new int[] {0, 1, 19}) {
            Hall x = house(1);
            x.book(0, 20);
            Houses.passTo(x, now);
            Due.notNow("come at " + now, () -> x.come(0));
            bookingIs(x, 0, 0, 20, OPEN, NONE);
            Due.is("the room is READY", KeylessHall.READY, x.state(0, 0));
        }
        Hall y = house(1);
        y.book(0, 75);
        Due.is("come 75 minutes ahead, for no booking", 0, y.come(0));
        bookingIs(y, 0, 0, 75, OPEN, NONE);
    }

    /** "the lowest booking [..] that is OPEN, and whose minute is now or was before": a lower one may come later. */
    private static void comeForTheLowest() {
        Hall x = house(1);
        x.book(0, 300);
        x.book(0, 0);
        x.cancel(1);
        x.book(0, 0);
        x.book(0, 100);
        Due.is("come", 0, x.come(0));
        bookingIs(x, 0, 0, 300, OPEN, NONE);
        bookingIs(x, 1, 0, 0, GONE, NONE);
        bookingIs(x, 2, 0, 0, USED, 0);
        bookingIs(x, 3, 0, 100, OPEN, NONE);
        leaveAndReset(x, 0);
        x.pass(10);
        Due.is("come 90 minutes ahead, behind one that is USED", 1, x.come(0));
        bookingIs(x, 2, 0, 0, USED, 0);
        leaveAndReset(x, 0);
        x.pass(90);
        Due.is("come for the third", 2, x.come(0));
        bookingIs(x, 0, 0, 300, OPEN, NONE);
        bookingIs(x, 3, 0, 100, USED, 2);
    }

    /** "the lowest booking of the room" */
    private static void comeForOneOfTheRoom() {
        Hall x = new Hall();
        for (int room = 0; room < 4; room++) {
            addRoom(x, 1);
            x.book(room, 0);
        }
        for (int room = 3; room >= 0; room--) {
            Due.is("come", 3 - room, x.come(room));
            bookingIs(x, room, room, 0, USED, 3 - room);
            if (room > 0) {
                bookingIs(x, room - 1, room - 1, 0, OPEN, NONE);
            }
        }
    }

    /** "only if no OPEN booking of the room begins less than 60 minutes and its gap behind now" */
    private static void comeWithoutBooking() {
        for (int k = 1; k < PUZZLES.length; k++) {
            int far = DISTANCES[k];
            for (int now : new int[] {0, 7}) {
                Hall x = house(PUZZLES[k]);
                x.book(0, now + far);
                Houses.passTo(x, now);
                Due.is("as far as that", 0, x.come(0));
                bookingIs(x, 0, 0, now + far, OPEN, NONE);
                Hall y = house(PUZZLES[k]);
                y.book(0, now + far - 1);
                Houses.passTo(y, now);
                Due.notNow("less than that", () -> y.come(0));
                y.pass(far - 2);
                Due.notNow("one minute ahead", () -> y.come(0));
                y.pass(1);
                Due.is("in its minute", 0, y.come(0));
                bookingIs(y, 0, 0, now + far - 1, USED, 0);
            }
        }
        Hall z = new Hall();
        Houses.oneStep(z, 1);
        z.book(0, 66);
        Due.is("66 minutes, with a gap of 6", 0, z.come(0));
        leaveAndReset(z, 0);
        z.pass(1);
        Due.notNow("65 minutes, with a gap of 6", () -> z.come(0));
        z.puzzle(0, 2, 4, NONE, 1);
        z.cancel(0);
        z.book(0, 67);
        Due.notNow("66 minutes, with a gap of 7", () -> z.come(0));
        z.cancel(1);
        z.book(0, 68);
        Due.is("67 minutes, with a gap of 7", 1, z.come(0));
    }

    /** "no OPEN booking of the room": neither one that is USED or GONE, nor one of another room. */
    private static void onlyOpenOnesKeepOthersOut() {
        Hall x = house(1);
        addRoom(x, 1);
        x.book(1, 10);
        Due.is("a booking of the other room", 0, x.come(0));
        Due.notNow("a booking of the room", () -> x.come(1));
        x.cancel(0);
        Due.is("that is GONE", 1, x.come(1));
        leaveAndReset(x, 1);
        x.book(1, 0);
        x.come(1);
        bookingIs(x, 1, 1, 0, USED, 2);
        leaveAndReset(x, 1);
        Due.is("that is USED", 3, x.come(1));
        bookingIs(x, 1, 1, 0, USED, 2);
        leaveAndReset(x, 1);
        x.book(1, 4940);
        Due.is("that is far away", 4, x.come(1));
    }

    private static void nextOneDoesNotMatterWithADueOne() {
        Hall x = house(0);
        x.book(0, 0);
        x.book(0, 65);
        x.puzzle(0, 2, 1, NONE, 1);
        x.pass(14);
        Due.is("come 14 minutes late, 51 ahead of the next one", 0, x.come(0));
        bookingIs(x, 0, 0, 0, USED, 0);
        bookingIs(x, 1, 0, 65, OPEN, NONE);
        leaveAndReset(x, 0);
        Due.notNow("the next group has no booking that is due", () -> x.come(0));
        x.pass(51);
        Due.is("now it has", 1, x.come(0));
        bookingIs(x, 1, 0, 65, USED, 1);
    }

    // ---- promise 17

    /** "`minute`: 0 to 4940"; "IllegalArgumentException if minute is out of range" */
    private static void offerMinutes() {
        Hall x = house(1);
        for (int minute : new int[] {Houses.LEAST, -2, -1, 4941, 4942, 5000, Houses.GREATEST}) {
            Due.outOfRange("offer from " + minute, () -> x.offer(0, minute));
            Due.noSuch("offer of no room from " + minute, () -> x.offer(1, minute));
        }
        for (int minute : new int[] {0, 1, 2500, 4939, 4940}) {
            Due.is("offer of a free room", minute, x.offer(0, minute));
        }
        Houses.passTo(x, 5000);
        Due.outOfRange("offer from -1 at the end", () -> x.offer(0, -1));
        Due.outOfRange("offer from 4941 at the end", () -> x.offer(0, 4941));
        isNoBooking(x, 0);
    }

    /** "then or later, and not ahead of now" */
    private static void offerNotAheadOfNow() {
        Hall x = house(1);
        for (int now : new int[] {1, 100, 4939, 4940}) {
            Houses.passTo(x, now);
            Due.is("from 0", now, x.offer(0, 0));
            Due.is("from a minute ahead of now", now, x.offer(0, now - 1));
            Due.is("from now", now, x.offer(0, now));
            if (now < 4940) {
                Due.is("from the minute behind now", now + 1, x.offer(0, now + 1));
            }
        }
        for (int now : new int[] {4941, 5000}) {
            Houses.passTo(x, now);
            Due.is("from 0, when nothing can be booked any more", NONE, x.offer(0, 0));
            Due.is("from 4940", NONE, x.offer(0, 4940));
        }
    }

    private static Hall booked(int puzzles, int... minutes) {
        Hall x = house(puzzles);
        Houses.passTo(x, 30);
        for (int minute : minutes) {
            x.book(0, minute);
        }
        return x;
    }

    /** "is the first minute [..] at which it could be booked": book is refused for all minutes up to it. */
    private static void offerIsTheFirst() {
        int[] minutes = {500, 190, 30, 345, 800, 4730, 4880};
        for (int from = 0; from <= 4940; from += from < 1000 || from > 4500 ? 1 : 500) {
            int first = NONE;
            for (int minute = Math.max(from, 30); minute <= 4940 && first == NONE; minute++) {
                boolean isFree = true;
                for (int one : minutes) {
                    isFree &= Math.abs(one - minute) >= 75;
                }
                first = isFree ? minute : NONE;
            }
            Hall x = booked(1, minutes);
            Due.is("offer from " + from, first, x.offer(0, from));
            if (first != NONE) {
                Due.is("that can be booked", minutes.length, x.book(0, first));
            }
        }
    }

    private static void offerBetweenTwo() {
        for (int k = 0; k < PUZZLES.length; k++) {
            int far = DISTANCES[k];
            Hall x = booked(PUZZLES[k], 1000, 1000 + 2 * far);
            Due.is("room for just one", 1000 + far, x.offer(0, 1000 - far + 1));
            Due.is("from that on", 1000 + far, x.offer(0, 1000 + far));
            Due.is("a minute later", 1000 + 3 * far, x.offer(0, 1000 + far + 1));
            Due.is("just ahead of both", 1000 - far, x.offer(0, 1000 - far));
            Hall y = booked(PUZZLES[k], 1000, 1000 + 2 * far - 1);
            Due.is("a minute too little", 1000 + 3 * far - 1, y.offer(0, 1000 - far + 1));
        }
    }

    /** "NONE if there is none up to 4940." */
    private static void offerNone() {
        for (int k = 0; k < PUZZLES.length; k++) {
            int far = DISTANCES[k];
            Hall x = booked(PUZZLES[k], 4940 - far);
            Due.is("just up to 4940", 4940, x.offer(0, 4940 - far));
            Due.is("from 4940", 4940, x.offer(0, 4940));
            Hall y = booked(PUZZLES[k], 4941 - far);
            Due.is("one minute too late", NONE, y.offer(0, 4941 - far));
            Due.is("from 4940", NONE, y.offer(0, 4940));
            Due.is("from the last that is far enough", 4941 - 2 * far, y.offer(0, 4941 - 2 * far));
            Due.is("from the minute behind that", NONE, y.offer(0, 4942 - 2 * far));
            Hall z = booked(PUZZLES[k], 4940);
            Due.is("the last one is taken", NONE, z.offer(0, 4940));
            y.cancel(0);
            Due.is("with that cancelled", 4940, y.offer(0, 4940));
        }
    }

    /** "however many bookings there were" */
    private static void offerHoweverManyThereWere() {
        Hall x = house(1);
        Houses.oneStep(x, 1);
        for (int k = 29; k >= 0; k--) {
            x.book(0, 75 * k);
        }
        Due.notNow("there were 30", () -> x.book(0, 2250));
        Due.is("behind all thirty", 2250, x.offer(0, 0));
        Due.is("the other room", 0, x.offer(1, 0));
        x.cancel(0);
        Due.is("in the place of the last", 2175, x.offer(0, 0));
        x.cancel(29);
        Due.is("in the place of the first", 0, x.offer(0, 0));
        x.pass(1);
        Due.is("now, a minute behind that, is too near to the next", 2175, x.offer(0, 0));
    }

    // ---- promises 18 and 19

    /** "`minutes`: 1 to 600"; "IllegalArgumentException if minutes is out of range" */
    private static void passMinutes() {
        Hall x = new Hall();
        for (int minutes : new int[] {Houses.LEAST, -600, -1, 0, 601, 602, 5000, Houses.GREATEST}) {
            Due.outOfRange("pass(" + minutes + ")", () -> x.pass(minutes));
            Due.is("the minute", 0, x.minute());
        }
        int now = 0;
        for (int minutes : new int[] {1, 2, 599, 600}) {
            now += minutes;
            Due.is("pass(" + minutes + ")", now, x.pass(minutes));
            Due.is("the minute", now, x.minute());
        }
        Due.is("asked again", now, x.minute());
    }

    /** "IllegalStateException if it would be above 5000" */
    private static void passUpToTheEnd() {
        for (int left : new int[] {1, 2, 599, 600}) {
            Hall x = new Hall();
            Houses.passTo(x, 5000 - left);
            if (left < 600) {
                Due.notNow("one more than are left", () -> x.pass(left + 1));
                Due.notNow("600", () -> x.pass(600));
            }
            Due.outOfRange("601", () -> x.pass(601));
            Due.is("the minute", 5000 - left, x.minute());
            Due.is("all that are left", 5000, x.pass(left));
            Due.notNow("one more", () -> x.pass(1));
            Due.notNow("600 more", () -> x.pass(600));
            Due.outOfRange("0 more", () -> x.pass(0));
            Due.outOfRange("601 more", () -> x.pass(601));
            Due.outOfRange("-1 more", () -> x.pass(-1));
            Due.is("the minute", 5000, x.minute());
        }
    }

    /** "In a minute that passes [..]": as many minutes at once are the same as one by one. */
    private static void passOneByOneOrAtOnce() {
        for (int minutes : new int[] {1, 2, 5, 13, 14, 15, 59, 60, 61}) {
            Hall x = inTheMiddle();
            Hall y = inTheMiddle();
            x.pass(minutes);
            for (int k = 0; k < minutes; k++) {
                y.pass(1);
            }
            Due.is("behind " + minutes + " minutes", Asked.all(x), Asked.all(y));
        }
    }

    private static Hall inTheMiddle() {
        Hall x = house(3);
        addRoom(x, 1);
        x.book(0, 1);
        x.book(1, 0);
        x.come(1);
        x.hint(0);
        x.solve(0, 0);
        x.reset(1, 2, true);
        addRoom(x, 1);
        x.come(2);
        x.hint(1);
        return x;
    }

    /** "groups whose time is over leave [..]; crew members [..] are done [..]; bookings are GONE." */
    private static void allThatEndsInOneMinute() {
        Hall x = new Hall();
        for (int room = 0; room < 3; room++) {
            addRoom(x, 1);
        }
        x.come(0);
        x.pass(35);
        x.book(2, 45);
        x.come(1);
        x.pass(10);
        x.solve(1, 0);
        x.reset(1, 2, true);
        x.pass(14);
        Due.is("the group plays", KeylessHall.PLAYS, x.group(0, 0));
        Due.is("the check", 1, x.crew(2, 2));
        bookingIs(x, 0, 2, 45, OPEN, NONE);
        x.pass(1);
        Due.is("the group LOST", KeylessHall.LOST, x.group(0, 0));
        Due.is("its room is DIRTY", KeylessHall.DIRTY, x.state(0, 0));
        Due.is("the checked room is READY", KeylessHall.READY, x.state(1, 0));
        Due.is("who checked does nothing", NONE, x.crew(2, 0));
        bookingIs(x, 0, 2, 45, GONE, NONE);
    }

    /** "An object is used for at most 512 calls": the 512th answers as the first does. */
    private static void lastCall() {
        Hall x = house(1);
        x.come(0);
        while (x.callsLeft() > 4) {
            x.prop(7, x.callsLeft() % 2 == 0);
        }
        x.pass(60);
        Due.is("how the group is", KeylessHall.LOST, x.group(0, 0));
        x.reset(0, 0, false);
        Due.is("the 512th call", 1, x.come(0));
        Due.is("calls left", 0, x.callsLeft());
    }

    // ---- promise 23

    /** "`what`: 0 its room, 1 its minute, 2 how it is, 3 the group that came for it, or NONE" */
    private static void whatOfABooking() {
        Hall x = new Hall();
        for (int room = 0; room < 4; room++) {
            addRoom(x, 1);
        }
        x.come(0);
        x.book(3, 9);
        for (int what : new int[] {Houses.LEAST, -2, -1, 4, 5, Houses.GREATEST}) {
            Due.outOfRange("booking 0, " + what, () -> x.booking(0, what));
            Due.noSuch("booking 1, " + what, () -> x.booking(1, what));
            Due.noSuch("booking -1, " + what, () -> x.booking(-1, what));
        }
        bookingIs(x, 0, 3, 9, OPEN, NONE);
        x.pass(9);
        bookingIs(x, 0, 3, 9, OPEN, NONE);
        x.come(3);
        bookingIs(x, 0, 3, 9, USED, 1);
        x.giveUp(1);
        bookingIs(x, 0, 3, 9, USED, 1);
    }
}
