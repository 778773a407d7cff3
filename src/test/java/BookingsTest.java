/** Promises 15 to 19 and 23, and what bookings make of 9. */
public final class BookingsTest {
    private static final int NONE = KeylessHall.NONE;

    private BookingsTest() {
    }

    public static void main(String[] args) {
        book();
        bookRefusals();
        thirtyBookings();
        bookBesideOthers();
        gapThatGrows();
        cancel();
        comeForBooking();
        comeWithoutBooking();
        nobodyCame();
        offer();
        offerAtTheEnd();
        pass();
        minuteByMinute();
        bookingRefusals();
        Due.end("BookingsTest");
    }

    /** Room 0 with a gap of 15: bookings begin 75 minutes apart at least. */
    private static Hall oneRoom() {
        Hall x = new Hall();
        x.room(2);
        x.puzzle(0, 2, 1, NONE, 10);
        return x;
    }

    private static void bookingIs(Hall x, int booking, int room, int minute, int how, int group) {
        Due.is("the room of booking " + booking, room, x.booking(booking, 0));
        Due.is("the minute of booking " + booking, minute, x.booking(booking, 1));
        Due.is("how booking " + booking + " is", how, x.booking(booking, 2));
        Due.is("the group of booking " + booking, group, x.booking(booking, 3));
    }

    private static void book() {
        Hall x = oneRoom();
        x.room(0);
        Due.is("book room 0", 0, x.book(0, 0));
        Due.is("book room 1 at the same time", 1, x.book(1, 0));
        Due.is("book room 1 that has no puzzle", 2, x.book(1, 65));
        Due.is("book the last minute", 3, x.book(0, 4940));
        bookingIs(x, 0, 0, 0, KeylessHall.OPEN, NONE);
        bookingIs(x, 1, 1, 0, KeylessHall.OPEN, NONE);
        bookingIs(x, 2, 1, 65, KeylessHall.OPEN, NONE);
        bookingIs(x, 3, 0, 4940, KeylessHall.OPEN, NONE);
    }

    private static void bookRefusals() {
        Hall x = oneRoom();
        Due.noSuch("book room -1", () -> x.book(-1, 9999));
        Due.noSuch("book room 1", () -> x.book(1, 0));
        Due.outOfRange("book minute -1", () -> x.book(0, -1));
        Due.outOfRange("book minute 4941", () -> x.book(0, 4941));
        x.pass(50);
        Due.outOfRange("book behind now", () -> x.book(0, 49));
        Due.is("book now", 0, x.book(0, 50));
        Due.notNow("too near", () -> x.book(0, 124));
        Due.notNow("the same minute", () -> x.book(0, 50));
        Due.outOfRange("out of range ahead of too near", () -> x.book(0, 49));
        Due.is("near enough", 1, x.book(0, 125));
        x.come(0);
        Due.notNow("a USED one counts too", () -> x.book(0, 60));
        Due.noSuch("no booking 2", () -> x.booking(2, 0));
    }

    private static void thirtyBookings() {
        Hall x = oneRoom();
        for (int k = 0; k < 30; k++) {
            Due.is("booking", k, x.book(0, 75 * k));
        }
        Due.notNow("a booking 30", () -> x.book(0, 4000));
        Due.outOfRange("a wrong booking 30", () -> x.book(0, 4941));
        x.cancel(7);
        Due.notNow("also when one is GONE", () -> x.book(0, 4000));
        Due.is("an offer however many there were", 4000, x.offer(0, 4000));
        Due.is("an offer in the place of the one that is GONE", 525, x.offer(0, 0));
        Due.is("behind all", 2250, x.offer(0, 526));
    }

    private static void bookBesideOthers() {
        Hall x = oneRoom();
        x.book(0, 500);
        Due.notNow("75 minutes ahead less one", () -> x.book(0, 426));
        Due.notNow("75 minutes behind less one", () -> x.book(0, 574));
        x.book(0, 425);
        x.book(0, 575);
        Due.notNow("between", () -> x.book(0, 460));
        Due.is("three bookings", 3, x.book(0, 650));
    }

    private static void gapThatGrows() {
        Hall x = oneRoom();
        x.book(0, 100);
        x.book(0, 175);
        x.puzzle(0, 2, 4, NONE, 3);
        Due.is("gap", 18, x.state(0, 4));
        Due.notNow("nearer than the gap that grew", () -> x.book(0, 252));
        x.book(0, 253);
        bookingIs(x, 0, 0, 100, KeylessHall.OPEN, NONE);
        x.pass(22);
        Due.is("at 22 a group may come: 100 is 78 behind", 0, x.come(0));
    }

    private static void cancel() {
        Hall x = oneRoom();
        Due.noSuch("cancel none", () -> x.cancel(0));
        x.book(0, 0);
        x.book(0, 100);
        Due.noSuch("cancel(-1)", () -> x.cancel(-1));
        Due.noSuch("cancel(2)", () -> x.cancel(2));
        x.cancel(1);
        bookingIs(x, 1, 0, 100, KeylessHall.GONE, NONE);
        Due.notNow("cancel again", () -> x.cancel(1));
        Due.is("its place is free", 2, x.book(0, 90));
        x.come(0);
        Due.notNow("cancel a USED one", () -> x.cancel(0));
        bookingIs(x, 0, 0, 0, KeylessHall.USED, 0);
    }

    private static void comeForBooking() {
        Hall x = oneRoom();
        x.room(2);
        x.puzzle(1, 2, 1, NONE, 1);
        x.book(1, 10);
        x.book(0, 10);
        x.book(0, 90);
        Due.notNow("come ahead of the booking", () -> x.come(0));
        x.pass(10);
        Due.is("come for it", 0, x.come(0));
        bookingIs(x, 0, 1, 10, KeylessHall.OPEN, NONE);
        bookingIs(x, 1, 0, 10, KeylessHall.USED, 0);
        bookingIs(x, 2, 0, 90, KeylessHall.OPEN, NONE);
        x.pass(14);
        Due.is("come 14 minutes behind it", 1, x.come(1));
        bookingIs(x, 0, 1, 10, KeylessHall.USED, 1);
        x.pass(1);
        bookingIs(x, 0, 1, 10, KeylessHall.USED, 1);
        Hall y = oneRoom();
        y.book(0, 75);
        y.book(0, 0);
        y.come(0);
        bookingIs(y, 0, 0, 75, KeylessHall.OPEN, NONE);
        bookingIs(y, 1, 0, 0, KeylessHall.USED, 0);
    }

    private static void comeWithoutBooking() {
        Hall y = oneRoom();
        y.book(0, 74);
        Due.notNow("74 minutes ahead of the first booking", () -> y.come(0));
        y.pass(73);
        Due.notNow("1 minute ahead of it", () -> y.come(0));
        Hall x = oneRoom();
        x.room(2);
        x.puzzle(1, 2, 1, NONE, 10);
        x.book(1, 10);
        x.book(0, 76);
        x.pass(2);
        Due.notNow("74 minutes ahead of a booking", () -> x.come(0));
        x.cancel(1);
        Due.is("cancelled, it keeps nobody out", 0, x.come(0));
        x.cancel(0);
        x.book(1, 77);
        Due.is("75 minutes ahead of a booking", 1, x.come(1));
        x.giveUp(1);
        x.reset(1, 0, false);
        x.pass(1);
        Due.notNow("74 minutes ahead again", () -> x.come(1));
    }

    private static void nobodyCame() {
        Hall x = oneRoom();
        x.book(0, 10);
        x.book(0, 85);
        x.pass(24);
        bookingIs(x, 0, 0, 10, KeylessHall.OPEN, NONE);
        x.pass(1);
        bookingIs(x, 0, 0, 10, KeylessHall.GONE, NONE);
        Due.notNow("cancel one that is GONE", () -> x.cancel(0));
        Due.notNow("the next booking is too near", () -> x.come(0));
        x.cancel(1);
        Due.is("come without a booking", 0, x.come(0));
        bookingIs(x, 0, 0, 10, KeylessHall.GONE, NONE);
        x.book(0, 25);
        x.pass(15);
        bookingIs(x, 2, 0, 25, KeylessHall.GONE, NONE);
    }

    private static void offer() {
        Hall x = oneRoom();
        Due.noSuch("offer of room 1", () -> x.offer(1, 9999));
        Due.noSuch("offer of room -1", () -> x.offer(-1, 0));
        Due.outOfRange("offer from -1", () -> x.offer(0, -1));
        Due.outOfRange("offer from 4941", () -> x.offer(0, 4941));
        Due.is("offer of a free room", 0, x.offer(0, 0));
        Due.is("offer from the last minute", 4940, x.offer(0, 4940));
        // Out of their order, so that one look through them is not enough.
        x.book(0, 300);
        x.book(0, 225);
        x.book(0, 75);
        Due.is("just ahead", 0, x.offer(0, 0));
        Due.is("between two that are far enough apart", 150, x.offer(0, 1));
        Due.is("then", 150, x.offer(0, 150));
        Due.is("behind two in a row", 375, x.offer(0, 151));
        x.pass(20);
        Due.is("not ahead of now", 150, x.offer(0, 0));
        x.cancel(2);
        Due.is("now", 20, x.offer(0, 0));
        Due.is("from now on", 20, x.offer(0, 19));
        Due.is("later", 21, x.offer(0, 21));
        x.book(0, 20);
        x.come(0);
        Due.is("behind a USED one", 95, x.offer(0, 0));
        Due.is("the offer can be booked", 4, x.book(0, x.offer(0, 0)));
    }

    private static void offerAtTheEnd() {
        Hall x = oneRoom();
        x.book(0, 4866);
        Due.is("no offer up to 4940", NONE, x.offer(0, 4866));
        Due.is("no offer from 4792 on", NONE, x.offer(0, 4792));
        Due.is("offer just ahead", 4791, x.offer(0, 4791));
        x.cancel(0);
        x.book(0, 4865);
        Due.is("offer at 4940", 4940, x.offer(0, 4800));
        for (int k = 0; k < 8; k++) {
            x.pass(600);
        }
        x.pass(140);
        Due.is("now", 4940, x.offer(0, 0));
        x.pass(1);
        Due.is("now is behind 4940", NONE, x.offer(0, 0));
        Due.outOfRange("nothing can be booked any more", () -> x.book(0, 4940));
        Due.outOfRange("nor now", () -> x.book(0, 4941));
    }

    private static void pass() {
        Hall x = new Hall();
        Due.outOfRange("pass(0)", () -> x.pass(0));
        Due.outOfRange("pass(-1)", () -> x.pass(-1));
        Due.outOfRange("pass(601)", () -> x.pass(601));
        Due.is("pass(1)", 1, x.pass(1));
        Due.is("pass(600)", 601, x.pass(600));
        for (int k = 0; k < 7; k++) {
            x.pass(600);
        }
        Due.is("minute", 4801, x.minute());
        Due.notNow("pass(200)", () -> x.pass(200));
        Due.notNow("pass(600)", () -> x.pass(600));
        Due.outOfRange("pass(601) at the end", () -> x.pass(601));
        Due.is("minute stays", 4801, x.minute());
        Due.is("pass(199)", 5000, x.pass(199));
        Due.notNow("pass(1) at 5000", () -> x.pass(1));
        Due.is("minute at the end", 5000, x.minute());
    }

    private static void minuteByMinute() {
        Hall x = oneRoom();
        x.come(0);
        x.book(0, 75);
        x.pass(60);
        x.reset(0, 0, true);
        x.pass(5);
        Due.is("READY", KeylessHall.READY, x.state(0, 0));
        x.pass(14);
        Due.is("come late", 1, x.come(0));
        x.solve(1, 0);
        x.reset(0, 0, true);
        // In one call: the puzzle, then the check, and a booking that goes.
        x.book(0, 150);
        Due.is("pass over it all", 165, x.pass(86));
        Due.is("READY again", KeylessHall.READY, x.state(0, 0));
        Due.is("nobody came", KeylessHall.GONE, x.booking(1, 2));
    }

    private static void bookingRefusals() {
        Hall x = oneRoom();
        Due.noSuch("booking of none", () -> x.booking(0, 9));
        x.book(0, 0);
        Due.outOfRange("what -1", () -> x.booking(0, -1));
        Due.outOfRange("what 4", () -> x.booking(0, 4));
        Due.noSuch("booking(-1, 0)", () -> x.booking(-1, 0));
    }
}
