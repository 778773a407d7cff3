import java.util.ArrayList;
import java.util.List;
import java.util.Map;
import java.util.TreeMap;

/**
 * Each call with its arguments at the edges of their ranges, every value of one with every value of the others, in
 * houses from the empty to the full one, held against NaiveHall.
 */
public final class EdgesTest {
    private static final int LEAST = Houses.LEAST, GREATEST = Houses.GREATEST;
    private static final int MOST_QUESTIONS = 250;

    private static final Object[] IS_SO = {false, true};
    private static final Object[] ROOM = {LEAST, -1, 0, 1, 2, 3, 4, GREATEST};
    private static final Object[] THINGS = {LEAST, -1, 0, 1, 2, 2048, 4094, 4095, 4096, GREATEST};
    private static final Object[] PROP = {LEAST, -2, -1, 0, 3, 7, 8, GREATEST};
    private static final Object[] RESET_MINUTES = {LEAST, -1, 0, 1, 10, 11, GREATEST};
    private static final Object[] PUZZLE = {LEAST, -1, 0, 1, 2, 3, 7, 8, GREATEST};
    private static final Object[] CREW = {LEAST, -1, 0, 1, 2, 3, GREATEST};
    private static final Object[] WHAT = {LEAST, -1, 0, 1, 2, 3, 4, 5, 6, GREATEST};
    /** Groups and bookings. */
    private static final Object[] ONE_OF_THIRTY = {LEAST, -1, 0, 1, 2, 3, 4, 5, 28, 29, 30, GREATEST};

    private final String title;
    private final Refused.Made made;
    private Hall hall;
    private NaiveHall naive;
    private final List<NamedCall> asked = new ArrayList<>();

    private EdgesTest(String title, Refused.Made made) {
        this.title = title;
        this.made = made;
        begin();
    }

    public static void main(String[] args) {
        new EdgesTest("an empty house", x -> { }).allCalls();
        new EdgesTest("a room without puzzles", x -> x.room(2)).allCalls();
        new EdgesTest("a chain of eight", Houses::chainOfEight).allCalls();
        new EdgesTest("one of everything", RefusalsTest::mixed).allCalls();
        new EdgesTest("a check", RefusalsTest::checking).allCalls();
        new EdgesTest("30 groups", RefusalsTest::thirtyGroups).allCalls();
        new EdgesTest("30 bookings", RefusalsTest::thirtyBookings).allCalls();
        for (int minute : new int[] {4400, 4401, 4940, 4941, 4999, 5000}) {
            new EdgesTest("the minute " + minute, x -> {
                Houses.chainOfEight(x);
                Houses.passTo(x, minute);
            }).allCalls();
        }
        Due.end("EdgesTest");
    }

    private void allCalls() {
        Map<String, Object[][]> calls = edges(naive.minute());
        Due.is("calls of the face", NamedCall.METHODS.keySet().toString(), calls.keySet().toString());
        for (Map.Entry<String, Object[][]> call : calls.entrySet()) {
            allArguments(call.getKey(), call.getValue(), new Object[call.getValue().length], 0);
        }
        stateIsAsDue();
    }

    private static Map<String, Object[][]> edges(int now) {
        Object[] minute = {LEAST, -1, 0, now - 1, now, now + 1, 99, 100, 101, 4939, 4940, 4941, 5000, GREATEST};
        Object[] minutes = {LEAST, -1, 0, 1, 2, 59, 60, 61, 599, 600, 601, 5000 - now, 5001 - now, GREATEST};
        Map<String, Object[][]> edges = new TreeMap<>();
        edges.put("room", new Object[][] {THINGS});
        edges.put("puzzle", new Object[][] {ROOM, THINGS, THINGS, PROP, RESET_MINUTES});
        edges.put("prop", new Object[][] {PROP, IS_SO});
        edges.put("had", new Object[][] {ROOM, THINGS});
        edges.put("canBeLeft", new Object[][] {ROOM});
        edges.put("orders", new Object[][] {ROOM});
        edges.put("ordersAnew", new Object[][] {ROOM});
        edges.put("come", new Object[][] {ROOM});
        edges.put("solve", new Object[][] {ONE_OF_THIRTY, PUZZLE});
        edges.put("hint", new Object[][] {ONE_OF_THIRTY});
        edges.put("giveUp", new Object[][] {ONE_OF_THIRTY});
        edges.put("reset", new Object[][] {ROOM, CREW, IS_SO});
        edges.put("forget", new Object[][] {CREW});
        edges.put("book", new Object[][] {ROOM, minute});
        edges.put("cancel", new Object[][] {ONE_OF_THIRTY});
        edges.put("offer", new Object[][] {ROOM, minute});
        edges.put("pass", new Object[][] {minutes});
        edges.put("minute", new Object[][] {});
        edges.put("state", new Object[][] {ROOM, WHAT});
        edges.put("group", new Object[][] {ONE_OF_THIRTY, WHAT});
        edges.put("crew", new Object[][] {CREW, WHAT});
        edges.put("booking", new Object[][] {ONE_OF_THIRTY, WHAT});
        return edges;
    }

    /** The call with each row of arguments that begins as chosen so far. */
    private void allArguments(String name, Object[][] edges, Object[] chosen, int count) {
        if (count == edges.length) {
            call(new NamedCall(name, chosen.clone()));
            return;
        }
        for (Object value : edges[count]) {
            chosen[count] = value;
            allArguments(name, edges, chosen, count + 1);
        }
    }

    /** A refused call leaves the house as it was made, so the next one finds the same; any other takes a new house. */
    private void call(NamedCall call) {
        String want = call.answerOf(naive);
        asked.add(call);
        Due.is(call + " in a house with " + title, want, call.answerOf(hall));
        if (!want.startsWith("throws.") || hall.callsLeft() <= MOST_QUESTIONS) {
            stateIsAsDue();
            begin();
        }
    }

    private void begin() {
        asked.clear();
        hall = new Hall();
        naive = new NaiveHall();
        made.in(hall);
        made.in(naive);
    }

    private void stateIsAsDue() {
        int questions = hall.callsLeft();
        String want = Asked.upTo(naive, questions);
        Due.is("all that is asked of a house with " + title + " behind " + asked, want, Asked.upTo(hall, questions));
    }
}
