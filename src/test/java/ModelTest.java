import java.lang.reflect.Method;
import java.lang.reflect.Modifier;
import java.util.ArrayList;
import java.util.List;
import java.util.Map;
import java.util.TreeMap;

/**
 * All promises: long runs of calls on the class and on NaiveHall, with the same answers. At some points of a run its
 * calls are made once more of a new object, and all that can be asked then is held against NaiveHall too.
 */
public final class ModelTest {
    private static final int RUNS = 800;
    private static final int POINTS = 12;
    private static final int MOST_QUESTIONS = 250;

    private static final Map<String, Integer> ANSWERED = new TreeMap<>();

    private final Hall hall = new Hall();
    private final NaiveHall naive = new NaiveHall();
    private final List<NamedCall> made = new ArrayList<>();
    private final int run;
    private long seed;
    private boolean isWrong;

    private ModelTest(int run) {
        this.run = run;
        seed = run * 7919L + 17;
    }

    public static void main(String[] args) {
        for (int run = 0; run < RUNS; run++) {
            new ModelTest(run).run();
        }
        everyKindOfAnswerCame();
        Due.end("ModelTest");
    }

    /** A number from 0 to below; always the same row of numbers for the same run. */
    private int any(int below) {
        seed = seed * 6364136223846793005L + 1442695040888963407L;
        return (int) ((seed >>> 33) % below);
    }

    private boolean oneIn(int of) {
        return any(of) == 0;
    }

    private void run() {
        build();
        while (hall.callsLeft() > 0 && !isWrong) {
            if (oneIn(12)) {
                strangeCall();
            } else {
                likelyCall();
            }
            if (oneIn(Hall.MOST_CALLS / POINTS)) {
                askAllOnceMore();
            }
        }
        Due.holds("run " + run, !isWrong);
    }

    /** On a new object, so that the one of the run is not called more often than it may be. */
    private void askAllOnceMore() {
        Hall again = new Hall();
        for (NamedCall call : made) {
            call.answerOf(again);
        }
        int questions = Math.min(MOST_QUESTIONS, again.callsLeft());
        String want = Asked.upTo(naive, questions);
        String got = Asked.upTo(again, questions);
        if (!got.equals(want)) {
            wrong("all that is asked", want, got);
        }
    }

    private void build() {
        if (run % 8 == 0) {
            // So that some runs meet the last minutes of the house.
            for (int k = 0; k < 8; k++) {
                call("pass", 560 + any(41));
            }
        }
        int rooms = 1 + any(4);
        for (int k = 0; k < rooms; k++) {
            call("room", oneIn(8) ? any(4096) : 2 | (any(4096) & any(4096) & any(4096) & ~(oneIn(9) ? 0 : 1)));
            int puzzles = run % 3 == 0 ? 8 : 1 + any(8);
            for (int p = 0; p < puzzles; p++) {
                anyPuzzle(k);
            }
        }
    }

    private void anyPuzzle(int room) {
        int needs = oneIn(3) ? 2 : 1 << any(5) | (oneIn(4) ? 1 << any(6) : 0);
        int gives = (oneIn(4) ? 1 : 1 << any(5)) | (oneIn(4) ? 1 << any(6) : 0);
        call("puzzle", room, needs, oneIn(20) ? gives : gives & ~needs, oneIn(2) ? -1 : any(8), 1 + any(10));
    }

    private void likelyCall() {
        int room = lately(4);
        switch (any(30)) {
            case 0: case 1:
                call("book", room, Math.min(4940, naive.minute() + (oneIn(3) ? 0 : any(300))));
                break;
            case 2:
                call("cancel", any(oneIn(4) ? 30 : 4));
                break;
            case 3:
                call("offer", room, Math.min(4940, naive.minute() + any(200)));
                break;
            case 4: case 5: case 6: case 7: case 8:
                call("pass", oneIn(6) ? 1 + any(60) : 1 + any(6));
                break;
            case 9: case 10:
                call("prop", any(8), oneIn(3));
                break;
            case 11:
                anyPuzzle(room);
                break;
            case 12:
                call(oneIn(2) ? "orders" : "ordersAnew", room);
                break;
            case 13:
                if (oneIn(2)) {
                    call("canBeLeft", room);
                } else {
                    call("had", room, any(4096));
                }
                break;
            case 14: case 15: case 16:
                likelyQuestion(room);
                break;
            default:
                fittingCall(any(Math.max(1, count("state"))));
                break;
        }
    }

    /** A call that a room in its state mostly allows. */
    private void fittingCall(int room) {
        if (count("state") == 0 || oneIn(20)) {
            call("come", room);
            return;
        }
        if (oneIn(20)) {
            call("reset", room, any(3), oneIn(2));
            return;
        }
        int group = naive.state(room, 3);
        switch (naive.state(room, 0)) {
            case KeylessHall.READY:
                call("come", room);
                break;
            case KeylessHall.PLAYED:
                if (oneIn(12)) {
                    call("giveUp", group);
                } else if (oneIn(4)) {
                    call("hint", group);
                } else {
                    call("solve", group, any(8));
                }
                break;
            case KeylessHall.DIRTY:
                call("reset", room, any(3), oneIn(2));
                break;
            default:
                if (oneIn(3)) {
                    call("forget", any(3));
                } else {
                    call("pass", 1 + any(5));
                }
                break;
        }
    }

    private void likelyQuestion(int room) {
        switch (any(5)) {
            case 0:
                call("minute");
                break;
            case 1:
                call("state", room, any(5));
                break;
            case 2:
                call("group", any(Math.max(1, count("group"))), any(6));
                break;
            case 3:
                call("crew", any(3), any(3));
                break;
            default:
                call("booking", any(Math.max(1, count("booking"))), any(4));
                break;
        }
    }

    private int lately(int below) {
        return Math.min(any(below), any(below));
    }

    private Object strangeOrSmall() {
        return oneIn(2) ? any(3) : strangeNumber();
    }

    private int strangeNumber() {
        switch (any(8)) {
            case 0:
                return -1;
            case 1:
                return -2;
            case 2:
                return Integer.MIN_VALUE;
            case 3:
                return Integer.MAX_VALUE;
            case 4:
                return any(8192);
            case 5:
                return any(700);
            default:
                return any(12);
        }
    }

    private void strangeCall() {
        List<String> names = new ArrayList<>(NamedCall.METHODS.keySet());
        String name = names.get(any(names.size()));
        if (name.equals("pass") && oneIn(2)) {
            return;
        }
        Class<?>[] types = NamedCall.METHODS.get(name).getParameterTypes();
        Object[] arguments = new Object[types.length];
        for (int i = 0; i < arguments.length; i++) {
            arguments[i] = types[i] == int.class ? strangeOrSmall() : (Object) oneIn(2);
        }
        call(name, arguments);
    }

    private void call(String name, Object... arguments) {
        if (hall.callsLeft() == 0 || isWrong) {
            return;
        }
        NamedCall call = new NamedCall(name, arguments);
        made.add(call);
        String want = call.answerOf(naive);
        String got = call.answerOf(hall);
        ANSWERED.merge(name + (got.startsWith("throws") ? " " + got : ""), 1, Integer::sum);
        if (!got.equals(want)) {
            wrong("the last call", want, got);
        }
    }

    private void wrong(String what, String want, String got) {
        isWrong = true;
        System.out.println("run " + run + ", behind " + made);
        Due.is(what, want, got);
    }

    private int count(String of) {
        int count = 0;
        while (!new NamedCall(of, count, 0).answerOf(naive).startsWith("throws")) {
            count++;
        }
        return count;
    }

    /** Runs in which a call never succeeds, or an exception of the face never comes, would tell too little. */
    private static void everyKindOfAnswerCame() {
        for (Map.Entry<String, Method> entry : NamedCall.METHODS.entrySet()) {
            Due.holds(entry.getKey() + " answered", ANSWERED.getOrDefault(entry.getKey(), 0) > 100);
        }
        for (Method method : KeylessHall.class.getDeclaredMethods()) {
            if (!Modifier.isPublic(method.getModifiers())) {
                continue;
            }
            for (Class<?> thrown : method.getExceptionTypes()) {
                String kind = method.getName() + " throws." + thrown.getSimpleName();
                Due.holds(kind, ANSWERED.getOrDefault(kind, 0) > 0);
            }
        }
    }
}
