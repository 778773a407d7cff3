/** A house of escape rooms; ../shared/DOC.md says what it does. */
public final class KeylessHall {
    public static final int NONE = -1;
    public static final int READY = 0, PLAYED = 1, DIRTY = 2, RESETTING = 3;
    public static final int PLAYS = 0, WON = 1, LOST = 2, FREED = 3;
    public static final int OPEN = 0, USED = 1, GONE = 2;

    private static final int MOST_ROOMS = 4;
    private static final int MOST_PUZZLES = 8;
    private static final int PUZZLE_SETS = 1 << MOST_PUZZLES;
    private static final int MOST_GROUPS = 30;
    private static final int MOST_BOOKINGS = 30;
    private static final int CREW_MEMBERS = 3;
    private static final int PROPS = 8;
    private static final int ALL_THINGS = 4095;
    private static final int WAY_OUT = 0;

    private static final int LAST_MINUTE = 5000;
    private static final int LAST_BOOKABLE_MINUTE = 4940;
    private static final int MOST_MINUTES_AT_ONCE = 600;
    private static final int MOST_RESET_MINUTES = 10;
    private static final int PLAY_MINUTES = 60;
    private static final int BOOKED_MINUTES = 60;
    private static final int GAP_BESIDE_PUZZLES = 5;
    private static final int CHECK_MINUTES = 5;
    private static final int WAIT_MINUTES = 15;
    private static final int HINT_MINUTES = 2;
    private static final int MINUTES_PER_EARLIER_HINT = 3;

    private final Room[] rooms = new Room[MOST_ROOMS];
    private int roomCount;
    private final Group[] groups = new Group[MOST_GROUPS];
    private int groupCount;
    private final Booking[] bookings = new Booking[MOST_BOOKINGS];
    private int bookingCount;
    private final Worker[] workers = new Worker[CREW_MEMBERS];
    private int brokenProps;
    private int now;
    /** Kept here, so that counting orders makes no new row. */
    private final int[] ways = new int[PUZZLE_SETS];

    public KeylessHall() {
        for (int i = 0; i < CREW_MEMBERS; i++) {
            workers[i] = new Worker();
        }
    }

    // ---- rooms

    public int room(int things) throws IllegalArgumentException, IllegalStateException {
        if (!areThings(things)) {
            throw new IllegalArgumentException("things are 0 to 4095");
        }
        if (roomCount >= MOST_ROOMS) {
            throw new IllegalStateException("there are 4 rooms");
        }
        int number = roomCount;
        rooms[number] = new Room(number, things);
        roomCount++;
        return number;
    }

    public int puzzle(int room, int needs, int gives, int prop, int minutes)
            throws IndexOutOfBoundsException, IllegalArgumentException, IllegalStateException {
        Room place = roomNumbered(room);
        if (prop != NONE && !isProp(prop)) {
            throw new IndexOutOfBoundsException("props are 0 to 7, or NONE");
        }
        if (!areThings(needs) || !areThings(gives)) {
            throw new IllegalArgumentException("things are 0 to 4095");
        }
        if (gives == 0 || (gives & needs) != 0) {
            throw new IllegalArgumentException("a puzzle gives things that it does not need");
        }
        if (minutes < 1 || minutes > MOST_RESET_MINUTES) {
            throw new IllegalArgumentException("minutes are 1 to 10");
        }
        if (place.how != READY || place.puzzleCount >= MOST_PUZZLES) {
            throw new IllegalStateException("the room is not READY, or has 8 puzzles");
        }
        return place.addPuzzle(needs, gives, prop, minutes);
    }

    public int prop(int prop, boolean isBroken) throws IndexOutOfBoundsException {
        if (!isProp(prop)) {
            throw new IndexOutOfBoundsException("props are 0 to 7");
        }
        if (isBroken) {
            brokenProps = with(brokenProps, prop);
            return freeLockedIn();
        }
        brokenProps = without(brokenProps, prop);
        return 0;
    }

    public int had(int room, int things) throws IndexOutOfBoundsException, IllegalArgumentException {
        Room place = roomNumbered(room);
        if (!areThings(things)) {
            throw new IllegalArgumentException("things are 0 to 4095");
        }
        return place.reach(things, place.working(brokenProps));
    }

    public boolean canBeLeft(int room) throws IndexOutOfBoundsException {
        return hasExit(roomNumbered(room));
    }

    public int orders(int room) throws IndexOutOfBoundsException {
        return countOrdersBySets(roomNumbered(room));
    }

    public int ordersAnew(int room) throws IndexOutOfBoundsException {
        Room place = roomNumbered(room);
        int working = place.working(brokenProps);
        // Without a way out no order counts, and to go through all of them would be the longest walk.
        if (!has(place.reach(place.things, working), WAY_OUT)) {
            return 0;
        }
        return countOrdersOneByOne(place, place.things, working, 0);
    }

    // ---- groups

    public int come(int room) throws IndexOutOfBoundsException, IllegalStateException {
        Room place = roomNumbered(room);
        if (place.how != READY || !hasExit(place)) {
            throw new IllegalStateException("the room is not READY, or cannot be left");
        }
        Booking due = bookingDue(place);
        if (due == null && isKeptForBooking(place)) {
            throw new IllegalStateException("a booking is too near");
        }
        if (groupCount >= MOST_GROUPS) {
            throw new IllegalStateException("there were 30 groups");
        }
        return letIn(place, due);
    }

    public int solve(int group, int puzzle) throws IndexOutOfBoundsException, IllegalStateException {
        Group players = groupNumbered(group);
        Room place = players.place;
        if (puzzle < 0 || puzzle >= place.puzzleCount) {
            throw new IndexOutOfBoundsException("no such puzzle");
        }
        if (players.how != PLAYS || !has(openTo(players), puzzle) || !place.isSolvable(puzzle, players.held)) {
            throw new IllegalStateException("the group does not play, or may not solve that");
        }
        players.solved = with(players.solved, puzzle);
        players.held |= place.gives[puzzle];
        leaveIfOut(players);
        return players.held;
    }

    public int hint(int group) throws IndexOutOfBoundsException, IllegalStateException {
        Group players = groupNumbered(group);
        if (players.how != PLAYS) {
            throw new IllegalStateException("the group does not play");
        }
        int told = players.place.lowestSolvable(wayOf(players), players.held);
        if (told == NONE) {
            // A group that plays always has a way: one that loses it is FREED at once.
            throw new IllegalStateException("the group has no way");
        }
        players.takeHint(told);
        leaveIfLate(players);
        return told;
    }

    public void giveUp(int group) throws IndexOutOfBoundsException, IllegalStateException {
        Group players = groupNumbered(group);
        if (players.how != PLAYS) {
            throw new IllegalStateException("the group does not play");
        }
        leave(players, LOST);
    }

    // ---- resets, bookings, minutes

    public void reset(int room, int crew, boolean isChecked) throws IndexOutOfBoundsException, IllegalStateException {
        Room place = roomNumbered(room);
        Worker worker = workerNumbered(crew);
        if (place.how != DIRTY || worker.place != null) {
            throw new IllegalStateException("the room is not DIRTY, or they reset another one");
        }
        place.how = RESETTING;
        place.forgotten = 0;
        place.isToBeChecked = isChecked;
        beginNext(worker, place);
    }

    public int forget(int crew) throws IndexOutOfBoundsException, IllegalStateException {
        Worker worker = workerNumbered(crew);
        Room place = worker.place;
        int puzzle = worker.puzzle;
        if (place == null || puzzle == NONE) {
            throw new IllegalStateException("they do not reset a puzzle now");
        }
        place.forgotten = with(place.forgotten, puzzle);
        place.toReset = without(place.toReset, puzzle);
        beginNext(worker, place);
        return puzzle;
    }

    public int book(int room, int minute)
            throws IndexOutOfBoundsException, IllegalArgumentException, IllegalStateException {
        Room place = roomNumbered(room);
        if (minute < now || minute > LAST_BOOKABLE_MINUTE) {
            throw new IllegalArgumentException("a booking begins now or later, at 4940 at the latest");
        }
        if (bookingTooNear(place, minute) != null) {
            throw new IllegalStateException("a booking is too near");
        }
        if (bookingCount >= MOST_BOOKINGS) {
            throw new IllegalStateException("there were 30 bookings");
        }
        int number = bookingCount;
        bookings[number] = new Booking(place, minute);
        bookingCount++;
        return number;
    }

    public void cancel(int booking) throws IndexOutOfBoundsException, IllegalStateException {
        Booking one = bookingNumbered(booking);
        if (one.how != OPEN) {
            throw new IllegalStateException("the booking is not OPEN");
        }
        one.how = GONE;
    }

    public int offer(int room, int minute) throws IndexOutOfBoundsException, IllegalArgumentException {
        Room place = roomNumbered(room);
        if (minute < 0 || minute > LAST_BOOKABLE_MINUTE) {
            throw new IllegalArgumentException("minutes are 0 to 4940");
        }
        int free = firstFree(place, Math.max(minute, now));
        return free <= LAST_BOOKABLE_MINUTE ? free : NONE;
    }

    public int pass(int minutes) throws IllegalArgumentException, IllegalStateException {
        if (minutes < 1 || minutes > MOST_MINUTES_AT_ONCE) {
            throw new IllegalArgumentException("minutes are 1 to 600");
        }
        if (now + minutes > LAST_MINUTE) {
            throw new IllegalStateException("minutes are counted up to 5000");
        }
        for (int i = 0; i < minutes; i++) {
            passOne();
        }
        return now;
    }

    // ---- what is asked

    public int minute() {
        return now;
    }

    public int state(int room, int what) throws IndexOutOfBoundsException, IllegalArgumentException {
        Room place = roomNumbered(room);
        switch (what) {
            case 0:
                return place.how;
            case 1:
                return place.toReset;
            case 2:
                return place.forgotten;
            case 3:
                return place.players == null ? NONE : place.players.number;
            case 4:
                return place.gap;
            default:
                throw new IllegalArgumentException("what is 0 to 4");
        }
    }

    public int group(int group, int what) throws IndexOutOfBoundsException, IllegalArgumentException {
        Group players = groupNumbered(group);
        switch (what) {
            case 0:
                return players.how;
            case 1:
                return players.place.number;
            case 2:
                return players.held;
            case 3:
                return players.solved;
            case 4:
                return players.how == PLAYS ? players.minutesLeft(now) : 0;
            case 5:
                return players.hintCount;
            default:
                throw new IllegalArgumentException("what is 0 to 5");
        }
    }

    public int crew(int crew, int what) throws IndexOutOfBoundsException, IllegalArgumentException {
        Worker worker = workerNumbered(crew);
        switch (what) {
            case 0:
                return worker.place == null ? NONE : worker.place.number;
            case 1:
                return worker.puzzle;
            case 2:
                return worker.minutesLeft;
            default:
                throw new IllegalArgumentException("what is 0 to 2");
        }
    }

    public int booking(int booking, int what) throws IndexOutOfBoundsException, IllegalArgumentException {
        Booking one = bookingNumbered(booking);
        switch (what) {
            case 0:
                return one.place.number;
            case 1:
                return one.begin;
            case 2:
                return one.how;
            case 3:
                return one.groupNumber;
            default:
                throw new IllegalArgumentException("what is 0 to 3");
        }
    }

    // ---- looking up by number

    private Room roomNumbered(int number) {
        if (number < 0 || number >= roomCount) {
            throw new IndexOutOfBoundsException("no such room");
        }
        return rooms[number];
    }

    private Group groupNumbered(int number) {
        if (number < 0 || number >= groupCount) {
            throw new IndexOutOfBoundsException("no such group");
        }
        return groups[number];
    }

    private Worker workerNumbered(int number) {
        if (number < 0 || number >= CREW_MEMBERS) {
            throw new IndexOutOfBoundsException("no such crew member");
        }
        return workers[number];
    }

    private Booking bookingNumbered(int number) {
        if (number < 0 || number >= bookingCount) {
            throw new IndexOutOfBoundsException("no such booking");
        }
        return bookings[number];
    }

    // ---- sets, the bit k for the member k

    private static boolean has(int set, int member) {
        return (set & (1 << member)) != 0;
    }

    private static int with(int set, int member) {
        return set | (1 << member);
    }

    private static int without(int set, int member) {
        return set & ~(1 << member);
    }

    private static boolean isWithin(int part, int whole) {
        return (part & ~whole) == 0;
    }

    private static boolean areThings(int set) {
        return set >= 0 && set <= ALL_THINGS;
    }

    private static boolean isProp(int prop) {
        return prop >= 0 && prop < PROPS;
    }

    // ---- ways out

    private boolean hasExit(Room place) {
        return place.puzzleCount > 0 && has(place.reach(place.things, place.working(brokenProps)), WAY_OUT);
    }

    /** Adds up, for each set of puzzles, in how many orders just that set can be solved without being out before. */
    private int countOrdersBySets(Room place) {
        int working = place.working(brokenProps);
        int sets = 1 << place.puzzleCount;
        for (int set = 0; set < sets; set++) {
            ways[set] = 0;
        }
        ways[0] = 1;
        int found = 0;
        for (int set = 0; set < sets; set++) {
            int held = place.things | place.givenBy(set);
            if (has(held, WAY_OUT)) {
                found += ways[set];
            } else {
                addWaysBehind(place, set, held, working & ~set);
            }
        }
        return found;
    }

    private void addWaysBehind(Room place, int set, int held, int left) {
        for (int k = 0; k < place.puzzleCount; k++) {
            if (has(left, k) && place.isSolvable(k, held)) {
                ways[with(set, k)] += ways[set];
            }
        }
    }

    private static int countOrdersOneByOne(Room place, int held, int left, int depth) {
        if (has(held, WAY_OUT)) {
            return 1;
        }
        if (depth >= MOST_PUZZLES) {
            return 0;
        }
        int found = 0;
        for (int k = 0; k < place.puzzleCount; k++) {
            if (has(left, k) && place.isSolvable(k, held)) {
                found += countOrdersOneByOne(place, held | place.gives[k], without(left, k), depth + 1);
            }
        }
        return found;
    }

    private int openTo(Group players) {
        return players.place.working(brokenProps) & ~players.solved;
    }

    /** The way of a group as a set of puzzles; the empty set if it has none. */
    private int wayOf(Group players) {
        Room place = players.place;
        int open = openTo(players);
        int best = 0;
        int fewest = MOST_PUZZLES + 1;
        // The sets rise, so of several with as few puzzles the least number stays.
        for (int set = 1; set < PUZZLE_SETS; set++) {
            int size = Integer.bitCount(set);
            if (size < fewest && isWithin(set, open) && has(place.reach(players.held, set), WAY_OUT)) {
                best = set;
                fewest = size;
            }
        }
        return best;
    }

    // ---- groups that come and leave

    private int letIn(Room place, Booking due) {
        int number = groupCount;
        int solved = place.forgotten;
        Group players = new Group(number, place, now, solved, place.things | place.givenBy(solved));
        groups[number] = players;
        groupCount++;
        place.how = PLAYED;
        place.players = players;
        if (due != null) {
            due.how = USED;
            due.groupNumber = number;
        }
        leaveIfOut(players);
        return number;
    }

    private static void leave(Group players, int how) {
        Room place = players.place;
        players.how = how;
        place.how = DIRTY;
        place.players = null;
        place.toReset = players.solved;
    }

    private static void leaveIfOut(Group players) {
        if (has(players.held, WAY_OUT)) {
            leave(players, WON);
        }
    }

    private void leaveIfLate(Group players) {
        if (players.minutesLeft(now) <= 0) {
            leave(players, LOST);
        }
    }

    private int freeLockedIn() {
        int freed = 0;
        for (int i = 0; i < roomCount; i++) {
            Room place = rooms[i];
            Group players = place.players;
            if (players != null && !has(place.reach(players.held, place.working(brokenProps)), WAY_OUT)) {
                leave(players, FREED);
                freed++;
            }
        }
        return freed;
    }

    // ---- resets

    private static void beginNext(Worker worker, Room place) {
        if (place.toReset == 0 && place.isToBeChecked) {
            // The check finds what was forgotten, so that is to be reset ahead of it.
            place.toReset = place.forgotten;
            place.forgotten = 0;
        }
        if (place.toReset != 0) {
            int puzzle = place.nextToReset();
            worker.begin(place, puzzle, place.minutes[puzzle]);
        } else if (place.isToBeChecked) {
            worker.begin(place, NONE, CHECK_MINUTES);
        } else {
            finishReset(worker, place);
        }
    }

    private static void finishReset(Worker worker, Room place) {
        place.how = READY;
        worker.stop();
    }

    private static void workOneMinute(Worker worker) {
        Room place = worker.place;
        if (place == null) {
            return;
        }
        worker.minutesLeft--;
        if (worker.minutesLeft > 0) {
            return;
        }
        if (worker.puzzle == NONE) {
            finishReset(worker, place);
        } else {
            place.toReset = without(place.toReset, worker.puzzle);
            beginNext(worker, place);
        }
    }

    // ---- bookings

    private static int bookingDistance(Room place) {
        return BOOKED_MINUTES + place.gap;
    }

    /** The booking that a group of now comes for, or null. */
    private Booking bookingDue(Room place) {
        for (int i = 0; i < bookingCount; i++) {
            Booking one = bookings[i];
            if (one.place == place && one.how == OPEN && one.begin <= now) {
                return one;
            }
        }
        return null;
    }

    private boolean isKeptForBooking(Room place) {
        for (int i = 0; i < bookingCount; i++) {
            Booking one = bookings[i];
            if (one.place == place && one.how == OPEN && one.begin - now < bookingDistance(place)) {
                return true;
            }
        }
        return false;
    }

    /** The lowest booking that is in the way of one from a minute on, or null. */
    private Booking bookingTooNear(Room place, int minute) {
        for (int i = 0; i < bookingCount; i++) {
            Booking one = bookings[i];
            if (one.place == place && one.how != GONE && Math.abs(one.begin - minute) < bookingDistance(place)) {
                return one;
            }
        }
        return null;
    }

    private int firstFree(Room place, int from) {
        int free = from;
        // Each step leaves one booking behind for good, so there are no more steps than bookings.
        for (int step = 0; step < bookingCount; step++) {
            Booking near = bookingTooNear(place, free);
            if (near == null) {
                return free;
            }
            free = near.begin + bookingDistance(place);
        }
        return free;
    }

    // ---- minutes

    private void passOne() {
        now++;
        for (int i = 0; i < roomCount; i++) {
            Group players = rooms[i].players;
            if (players != null) {
                leaveIfLate(players);
            }
        }
        for (int i = 0; i < CREW_MEMBERS; i++) {
            workOneMinute(workers[i]);
        }
        dropUnusedBookings();
    }

    private void dropUnusedBookings() {
        for (int i = 0; i < bookingCount; i++) {
            Booking one = bookings[i];
            if (one.how == OPEN && one.begin + WAIT_MINUTES <= now) {
                one.how = GONE;
            }
        }
    }

    /** A room with its puzzles. */
    private static final class Room {
        final int number;
        final int things;
        final int[] needs = new int[MOST_PUZZLES];
        final int[] gives = new int[MOST_PUZZLES];
        final int[] props = new int[MOST_PUZZLES];
        final int[] minutes = new int[MOST_PUZZLES];
        int puzzleCount;
        int gap = GAP_BESIDE_PUZZLES;
        int how = READY;
        int toReset;
        int forgotten;
        boolean isToBeChecked;
        Group players;

        Room(int number, int things) {
            this.number = number;
            this.things = things;
        }

        int addPuzzle(int need, int give, int prop, int resetMinutes) {
            int added = puzzleCount;
            needs[added] = need;
            gives[added] = give;
            props[added] = prop;
            minutes[added] = resetMinutes;
            gap += resetMinutes;
            puzzleCount++;
            return added;
        }

        /** The set of the puzzles that are not out. */
        int working(int brokenProps) {
            int set = 0;
            for (int k = 0; k < puzzleCount; k++) {
                if (props[k] == NONE || !has(brokenProps, props[k])) {
                    set = with(set, k);
                }
            }
            return set;
        }

        boolean isSolvable(int puzzle, int held) {
            return isWithin(needs[puzzle], held);
        }

        /** What a set of puzzles gives, all of them together. */
        int givenBy(int set) {
            int given = 0;
            for (int k = 0; k < puzzleCount; k++) {
                if (has(set, k)) {
                    given |= gives[k];
                }
            }
            return given;
        }

        /** What can be had from some things by a set of puzzles. */
        int reach(int from, int set) {
            int held = from;
            // Each round solves one puzzle more at least, or nothing changes any more.
            for (int round = 0; round < puzzleCount; round++) {
                for (int k = 0; k < puzzleCount; k++) {
                    if (has(set, k) && isSolvable(k, held)) {
                        held |= gives[k];
                    }
                }
            }
            return held;
        }

        /** The lowest puzzle of a set that can be solved with what is held, or NONE. */
        int lowestSolvable(int set, int held) {
            for (int k = 0; k < puzzleCount; k++) {
                if (has(set, k) && isSolvable(k, held)) {
                    return k;
                }
            }
            return NONE;
        }

        /** Asked only while there is a puzzle to be reset. */
        int nextToReset() {
            int greatest = 0;
            int greatestUnneeded = NONE;
            for (int k = 0; k < puzzleCount; k++) {
                if (has(toReset, k)) {
                    greatest = k;
                    if (!isNeededByOther(k)) {
                        greatestUnneeded = k;
                    }
                }
            }
            return greatestUnneeded == NONE ? greatest : greatestUnneeded;
        }

        private boolean isNeededByOther(int puzzle) {
            int given = gives[puzzle] & ~things;
            for (int k = 0; k < puzzleCount; k++) {
                if (k != puzzle && has(toReset, k) && (needs[k] & given) != 0) {
                    return true;
                }
            }
            return false;
        }
    }

    /** A group, also when it has left. */
    private static final class Group {
        final int number;
        final Room place;
        final int arrival;
        final int[] hintsFor = new int[MOST_PUZZLES];
        int hintCount;
        int hintCost;
        int how = PLAYS;
        int solved;
        int held;

        Group(int number, Room place, int arrival, int solved, int held) {
            this.number = number;
            this.place = place;
            this.arrival = arrival;
            this.solved = solved;
            this.held = held;
        }

        int minutesLeft(int now) {
            return PLAY_MINUTES - hintCost - (now - arrival);
        }

        void takeHint(int puzzle) {
            hintCost += HINT_MINUTES + MINUTES_PER_EARLIER_HINT * hintsFor[puzzle];
            hintsFor[puzzle]++;
            hintCount++;
        }
    }

    /** A crew member: without a place they do nothing, without a puzzle they check it. */
    private static final class Worker {
        Room place;
        int puzzle = NONE;
        int minutesLeft = NONE;

        void begin(Room newPlace, int newPuzzle, int minutes) {
            place = newPlace;
            puzzle = newPuzzle;
            minutesLeft = minutes;
        }

        void stop() {
            place = null;
            puzzle = NONE;
            minutesLeft = NONE;
        }
    }

    /** A booking, also when it is USED or GONE. */
    private static final class Booking {
        final Room place;
        final int begin;
        int how = OPEN;
        int groupNumber = NONE;

        Booking(Room place, int begin) {
            this.place = place;
            this.begin = begin;
        }
    }
}
