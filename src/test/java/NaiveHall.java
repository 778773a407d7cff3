import java.util.ArrayList;
import java.util.LinkedHashMap;
import java.util.List;
import java.util.Map;
import java.util.Set;
import java.util.TreeMap;
import java.util.TreeSet;

/**
 * The document once more, in another way than the program's: with sets of the library, ends told as minutes of
 * the house, orders as texts, and offers looked for minute by minute. ModelTest holds both against each other.
 */
public final class NaiveHall implements House {
    private static final class Puzzle {
        Set<Integer> needs;
        Set<Integer> gives;
        int prop;
        int minutes;
    }

    private static final class Room {
        Set<Integer> first;
        final List<Puzzle> puzzles = new ArrayList<>();
        int how = 0;
        Set<Integer> toReset = new TreeSet<>();
        Set<Integer> forgotten = new TreeSet<>();
        boolean checked;
        int group = -1;
    }

    private static final class Group {
        int room;
        int how = 0;
        int came;
        final Set<Integer> held = new TreeSet<>();
        final Set<Integer> solved = new TreeSet<>();
        final List<Integer> hints = new ArrayList<>();
    }

    private static final class Crew {
        int room = -1;
        int puzzle = -1;
        int end = -1;
    }

    private static final class Booking {
        int room;
        int minute;
        int how = 0;
        int group = -1;
    }

    private final List<Room> rooms = new ArrayList<>();
    private final List<Group> groups = new ArrayList<>();
    private final List<Booking> bookings = new ArrayList<>();
    private final List<Crew> crews = List.of(new Crew(), new Crew(), new Crew());
    private final Set<Integer> broken = new TreeSet<>();
    private int now = 0;

    private static <T> T at(List<T> list, int number) {
        if (number >= 0 && number < list.size()) {
            return list.get(number);
        }
        throw new IndexOutOfBoundsException();
    }

    private static void inRange(boolean isSo) {
        if (!isSo) {
            throw new IllegalArgumentException();
        }
    }

    private static void may(boolean isSo) {
        if (!isSo) {
            throw new IllegalStateException();
        }
    }

    private static Set<Integer> members(int number) {
        Set<Integer> set = new TreeSet<>();
        for (int k = 0; k < 31; k++) {
            if ((number >> k) % 2 == 1) {
                set.add(k);
            }
        }
        return set;
    }

    private static int number(Set<Integer> set) {
        int sum = 0;
        for (int k : set) {
            sum += (int) Math.pow(2, k);
        }
        return sum;
    }

    private boolean isOut(Puzzle puzzle) {
        return broken.contains(puzzle.prop);
    }

    private Set<Integer> closure(Room room, Set<Integer> from) {
        Set<Integer> had = new TreeSet<>(from);
        boolean grows = true;
        while (grows) {
            grows = false;
            for (Puzzle puzzle : room.puzzles) {
                if (!isOut(puzzle) && had.containsAll(puzzle.needs)) {
                    grows |= had.addAll(puzzle.gives);
                }
            }
        }
        return had;
    }

    private boolean leavable(Room room) {
        return !room.puzzles.isEmpty() && closure(room, room.first).contains(0);
    }

    private static int gap(Room room) {
        int sum = 5;
        for (Puzzle puzzle : room.puzzles) {
            sum += puzzle.minutes;
        }
        return sum;
    }

    @Override
    public int room(int things) {
        inRange(things >= 0 && things <= 4095);
        may(rooms.size() < 4);
        Room room = new Room();
        room.first = members(things);
        rooms.add(room);
        return rooms.size() - 1;
    }

    @Override
    public int puzzle(int room, int needs, int gives, int prop, int minutes) {
        Room r = at(rooms, room);
        if (prop < -1 || prop > 7) {
            throw new IndexOutOfBoundsException();
        }
        inRange(needs >= 0 && needs <= 4095 && gives >= 1 && gives <= 4095 && minutes >= 1 && minutes <= 10);
        Puzzle p = new Puzzle();
        p.needs = members(needs);
        p.gives = members(gives);
        p.prop = prop;
        p.minutes = minutes;
        for (int k : p.gives) {
            inRange(!p.needs.contains(k));
        }
        may(r.how == 0 && r.puzzles.size() < 8);
        r.puzzles.add(p);
        return r.puzzles.size() - 1;
    }

    @Override
    public int prop(int prop, boolean isBroken) {
        if (prop < 0 || prop > 7) {
            throw new IndexOutOfBoundsException();
        }
        if (!isBroken) {
            broken.remove(prop);
            return 0;
        }
        int freed = 0;
        if (broken.add(prop)) {
            for (Group g : groups) {
                if (g.how == 0 && !closure(rooms.get(g.room), g.held).contains(0)) {
                    out(g, 3);
                    freed++;
                }
            }
        }
        return freed;
    }

    @Override
    public int had(int room, int things) {
        Room r = at(rooms, room);
        inRange(things >= 0 && things <= 4095);
        return number(closure(r, members(things)));
    }

    @Override
    public boolean canBeLeft(int room) {
        return leavable(at(rooms, room));
    }

    private void walk(Room room, String order, Set<Integer> held, Set<String> ends) {
        if (held.contains(0)) {
            ends.add(order);
            return;
        }
        for (int k = 0; k < room.puzzles.size(); k++) {
            Puzzle p = room.puzzles.get(k);
            if (order.indexOf('0' + k) < 0 && !isOut(p) && held.containsAll(p.needs)) {
                Set<Integer> more = new TreeSet<>(held);
                more.addAll(p.gives);
                walk(room, order + k, more, ends);
            }
        }
    }

    @Override
    public int orders(int room) {
        Set<String> ends = new TreeSet<>();
        walk(at(rooms, room), "", at(rooms, room).first, ends);
        return ends.size();
    }

    @Override
    public int ordersAnew(int room) {
        return orders(room);
    }

    private void out(Group g, int how) {
        g.how = how;
        Room r = rooms.get(g.room);
        r.how = 2;
        r.group = -1;
        r.toReset = new TreeSet<>(g.solved);
    }

    @Override
    public int come(int room) {
        Room r = at(rooms, room);
        may(r.how == 0 && leavable(r) && groups.size() < 30);
        Booking due = null;
        boolean near = false;
        for (Booking b : bookings) {
            if (b.room == room && b.how == 0) {
                if (b.minute <= now && due == null) {
                    due = b;
                }
                near |= b.minute < now + 60 + gap(r);
            }
        }
        may(due != null || !near);
        Group g = new Group();
        g.room = room;
        g.came = now;
        g.held.addAll(r.first);
        for (int k : r.forgotten) {
            g.solved.add(k);
            g.held.addAll(r.puzzles.get(k).gives);
        }
        r.group = groups.size();
        r.how = 1;
        groups.add(g);
        if (due != null) {
            due.how = 1;
            due.group = r.group;
        }
        if (g.held.contains(0)) {
            out(g, 1);
        }
        return groups.size() - 1;
    }

    @Override
    public int solve(int group, int puzzle) {
        Group g = at(groups, group);
        Puzzle p = at(rooms.get(g.room).puzzles, puzzle);
        may(g.how == 0 && !isOut(p) && g.held.containsAll(p.needs) && g.solved.add(puzzle));
        g.held.addAll(p.gives);
        if (g.held.contains(0)) {
            out(g, 1);
        }
        return number(g.held);
    }

    /** From the sets of n puzzles to those of n + 1, until some come to hold the thing 0. */
    private Set<Integer> way(Group g) {
        Room r = rooms.get(g.room);
        Map<Integer, Set<Integer>> level = new LinkedHashMap<>();
        level.put(0, g.held);
        while (!level.isEmpty()) {
            TreeMap<Integer, Set<Integer>> next = new TreeMap<>();
            int least = Integer.MAX_VALUE;
            for (Map.Entry<Integer, Set<Integer>> entry : level.entrySet()) {
                for (int k = 0; k < r.puzzles.size(); k++) {
                    Puzzle p = r.puzzles.get(k);
                    Set<Integer> done = members(entry.getKey());
                    if (isOut(p) || g.solved.contains(k) || !entry.getValue().containsAll(p.needs) || !done.add(k)) {
                        continue;
                    }
                    Set<Integer> held = new TreeSet<>(entry.getValue());
                    held.addAll(p.gives);
                    next.put(number(done), held);
                    if (held.contains(0)) {
                        least = Math.min(least, number(done));
                    }
                }
            }
            if (least < Integer.MAX_VALUE) {
                return members(least);
            }
            level = next;
        }
        throw new AssertionError("a group that plays without a way");
    }

    private int left(Group g) {
        int cost = 0;
        for (int i = 0; i < g.hints.size(); i++) {
            cost += 2;
            for (int j = 0; j < i; j++) {
                cost += g.hints.get(j).equals(g.hints.get(i)) ? 3 : 0;
            }
        }
        return g.came + 60 - cost - now;
    }

    @Override
    public int hint(int group) {
        Group g = at(groups, group);
        may(g.how == 0);
        for (int k : way(g)) {
            if (g.held.containsAll(rooms.get(g.room).puzzles.get(k).needs)) {
                g.hints.add(k);
                if (left(g) <= 0) {
                    out(g, 2);
                }
                return k;
            }
        }
        throw new AssertionError("a way that cannot be begun");
    }

    @Override
    public void giveUp(int group) {
        Group g = at(groups, group);
        may(g.how == 0);
        out(g, 2);
    }

    @Override
    public void reset(int room, int crew, boolean isChecked) {
        Room r = at(rooms, room);
        Crew c = at(crews, crew);
        may(r.how == 2 && c.room == -1);
        r.how = 3;
        r.checked = isChecked;
        r.forgotten.clear();
        c.room = room;
        next(c);
    }

    private boolean isFree(Room r, int puzzle) {
        for (int other : r.toReset) {
            for (int thing : r.puzzles.get(puzzle).gives) {
                if (other != puzzle && r.puzzles.get(other).needs.contains(thing) && !r.first.contains(thing)) {
                    return false;
                }
            }
        }
        return true;
    }

    private void next(Crew c) {
        Room r = rooms.get(c.room);
        if (r.toReset.isEmpty() && r.checked && !r.forgotten.isEmpty()) {
            r.toReset = r.forgotten;
            r.forgotten = new TreeSet<>();
        }
        c.puzzle = -1;
        if (!r.toReset.isEmpty()) {
            TreeSet<Integer> free = new TreeSet<>();
            for (int k : r.toReset) {
                if (isFree(r, k)) {
                    free.add(k);
                }
            }
            c.puzzle = free.isEmpty() ? new TreeSet<>(r.toReset).last() : free.last();
            c.end = now + r.puzzles.get(c.puzzle).minutes;
        } else if (r.checked) {
            c.end = now + 5;
        } else {
            ready(c);
        }
    }

    private void ready(Crew c) {
        rooms.get(c.room).how = 0;
        c.room = -1;
    }

    @Override
    public int forget(int crew) {
        Crew c = at(crews, crew);
        may(c.room != -1 && c.puzzle != -1);
        int puzzle = c.puzzle;
        rooms.get(c.room).toReset.remove(puzzle);
        rooms.get(c.room).forgotten.add(puzzle);
        next(c);
        return puzzle;
    }

    private boolean bookable(int room, int minute) {
        for (Booking b : bookings) {
            int early = Math.min(b.minute, minute);
            int late = Math.max(b.minute, minute);
            if (b.room == room && b.how != 2 && early + 60 + gap(rooms.get(room)) > late) {
                return false;
            }
        }
        return minute >= now && minute <= 4940;
    }

    @Override
    public int book(int room, int minute) {
        at(rooms, room);
        inRange(minute >= now && minute <= 4940);
        may(bookable(room, minute) && bookings.size() < 30);
        Booking b = new Booking();
        b.room = room;
        b.minute = minute;
        bookings.add(b);
        return bookings.size() - 1;
    }

    @Override
    public void cancel(int booking) {
        Booking b = at(bookings, booking);
        may(b.how == 0);
        b.how = 2;
    }

    @Override
    public int offer(int room, int minute) {
        at(rooms, room);
        inRange(minute >= 0 && minute <= 4940);
        for (int m = minute; m <= 4940; m++) {
            if (bookable(room, m)) {
                return m;
            }
        }
        return -1;
    }

    @Override
    public int pass(int minutes) {
        inRange(minutes >= 1 && minutes <= 600);
        may(now + minutes <= 5000);
        int end = now + minutes;
        while (now < end) {
            now++;
            for (Group g : groups) {
                if (g.how == 0 && left(g) <= 0) {
                    out(g, 2);
                }
            }
            for (Crew c : crews) {
                if (c.room != -1 && c.end == now) {
                    Room r = rooms.get(c.room);
                    if (c.puzzle == -1) {
                        ready(c);
                    } else {
                        r.toReset.remove(c.puzzle);
                        next(c);
                    }
                }
            }
            for (Booking b : bookings) {
                if (b.how == 0 && b.minute + 15 == now) {
                    b.how = 2;
                }
            }
        }
        return now;
    }

    @Override
    public int minute() {
        return now;
    }

    @Override
    public int state(int room, int what) {
        Room r = at(rooms, room);
        inRange(what >= 0 && what <= 4);
        return new int[] {r.how, r.how == 1 ? 0 : number(r.toReset), number(r.forgotten), r.group, gap(r)}[what];
    }

    @Override
    public int group(int group, int what) {
        Group g = at(groups, group);
        inRange(what >= 0 && what <= 5);
        return new int[] {g.how, g.room, number(g.held), number(g.solved), g.how == 0 ? left(g) : 0,
            g.hints.size()}[what];
    }

    @Override
    public int crew(int crew, int what) {
        Crew c = at(crews, crew);
        inRange(what >= 0 && what <= 2);
        boolean busy = c.room != -1;
        return new int[] {c.room, busy ? c.puzzle : -1, busy ? c.end - now : -1}[what];
    }

    @Override
    public int booking(int booking, int what) {
        Booking b = at(bookings, booking);
        inRange(what >= 0 && what <= 3);
        return new int[] {b.room, b.minute, b.how, b.group}[what];
    }
}
