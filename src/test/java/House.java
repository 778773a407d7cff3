/** What can be called of a hall, so that the same calls can be made of the class and of NaiveHall. */
interface House {
    int room(int things);

    int puzzle(int room, int needs, int gives, int prop, int minutes);

    int prop(int prop, boolean isBroken);

    int had(int room, int things);

    boolean canBeLeft(int room);

    int orders(int room);

    int ordersAnew(int room);

    int come(int room);

    int solve(int group, int puzzle);

    int hint(int group);

    void giveUp(int group);

    void reset(int room, int crew, boolean isChecked);

    int forget(int crew);

    int book(int room, int minute);

    void cancel(int booking);

    int offer(int room, int minute);

    int pass(int minutes);

    int minute();

    int state(int room, int what);

    int group(int group, int what);

    int crew(int crew, int what);

    int booking(int booking, int what);
}
