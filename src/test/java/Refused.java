/** Calls that are to be refused, with all that can be asked before and after them. */
final class Refused {
    /** Makes a house in which a call is refused, always the same one. */
    interface Made {
        void in(House house);
    }

    /** The call that is refused. */
    interface Call {
        void on(House house);
    }

    private final Made made;

    private Refused(Made made) {
        this.made = made;
    }

    static Refused in(Made made) {
        return new Refused(made);
    }

    Refused noSuch(String what, Call call) {
        return refuses(what, IndexOutOfBoundsException.class, call);
    }

    Refused outOfRange(String what, Call call) {
        return refuses(what, IllegalArgumentException.class, call);
    }

    Refused notNow(String what, Call call) {
        return refuses(what, IllegalStateException.class, call);
    }

    private Hall hall() {
        Hall hall = new Hall();
        made.in(hall);
        return hall;
    }

    private static String thrown(Call call, House house) {
        return Asked.answer(() -> {
            call.on(house);
            return 0;
        });
    }

    /** On objects of their own, so that none is called too often: what is asked, and what comes later. */
    private Refused refuses(String what, Class<?> want, Call call) {
        Hall refused = hall();
        String before = Asked.all(refused);
        Due.is(what, "throws." + want.getSimpleName(), thrown(call, refused));
        Due.is("all that is asked behind " + what, before, Asked.all(refused));
        Hall refusedToo = hall();
        thrown(call, refusedToo);
        int calls = refusedToo.callsLeft();
        Due.is("what comes behind " + what, Asked.later(hall(), calls), Asked.later(refusedToo, calls));
        return this;
    }
}
