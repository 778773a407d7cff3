/** The class KeylessHall, with its calls counted: an object is used for at most 512. */
final class Hall implements House {
    static final int MOST_CALLS = 512;

    private final KeylessHall hall = new KeylessHall();
    private int calls;

    private KeylessHall counted() {
        if (calls >= MOST_CALLS) {
            throw new AssertionError("a test calls one object more than 512 times");
        }
        calls++;
        return hall;
    }

    int callsLeft() {
        return MOST_CALLS - calls;
    }

    @Override
    public int room(int things) {
        return counted().room(things);
    }

    @Override
    public int puzzle(int room, int needs, int gives, int prop, int minutes) {
        return counted().puzzle(room, needs, gives, prop, minutes);
    }

    @Override
    public int prop(int prop, boolean isBroken) {
        return counted().prop(prop, isBroken);
    }

    @Override
    public int had(int room, int things) {
        return counted().had(room, things);
    }

    @Override
    public boolean canBeLeft(int room) {
        return counted().canBeLeft(room);
    }

    @Override
    public int orders(int room) {
        return counted().orders(room);
    }

    @Override
    public int ordersAnew(int room) {
        return counted().ordersAnew(room);
    }

    @Override
    public int come(int room) {
        return counted().come(room);
    }

    @Override
    public int solve(int group, int puzzle) {
        return counted().solve(group, puzzle);
    }

    @Override
    public int hint(int group) {
        return counted().hint(group);
    }

    @Override
    public void giveUp(int group) {
        counted().giveUp(group);
    }

    @Override
    public void reset(int room, int crew, boolean isChecked) {
        counted().reset(room, crew, isChecked);
    }

    @Override
    public int forget(int crew) {
        return counted().forget(crew);
    }

    @Override
    public int book(int room, int minute) {
        return counted().book(room, minute);
    }

    @Override
    public void cancel(int booking) {
        counted().cancel(booking);
    }

    @Override
    public int offer(int room, int minute) {
        return counted().offer(room, minute);
    }

    @Override
    public int pass(int minutes) {
        return counted().pass(minutes);
    }

    @Override
    public int minute() {
        return counted().minute();
    }

    @Override
    public int state(int room, int what) {
        return counted().state(room, what);
    }

    @Override
    public int group(int group, int what) {
        return counted().group(group, what);
    }

    @Override
    public int crew(int crew, int what) {
        return counted().crew(crew, what);
    }

    @Override
    public int booking(int booking, int what) {
        return counted().booking(booking, what);
    }
}
