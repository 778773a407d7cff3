import java.lang.reflect.InvocationTargetException;
import java.lang.reflect.Method;
import java.util.ArrayList;
import java.util.List;
import java.util.Map;
import java.util.TreeMap;

/** All promises: long runs of calls on the class and on NaiveHall, with the same answers and states. */
public final class ModelTest {
    private static final int RUNS = 600;
    private static final int CALLS = 512;

    private final KeylessHall hall = new KeylessHall();
    private final NaiveHall naive = new NaiveHall();
    private final List<String> told = new ArrayList<>();
    private long seed;
    private boolean isWrong;

    private static final Map<String, Method> HALL = methods(KeylessHall.class);
    private static final Map<String, Method> NAIVE = methods(NaiveHall.class);
    private static final Map<String, Integer> ANSWERED = new TreeMap<>();

    private ModelTest(int run) {
        seed = run * 7919L + 17;
    }

    public static void main(String[] args) {
        for (int run = 0; run < RUNS; run++) {
            new ModelTest(run).run(run);
        }
        everyKindOfAnswerCame();
        Due.end("ModelTest");
    }

    private static Map<String, Method> methods(Class<?> of) {
        Map<String, Method> found = new TreeMap<>();
        for (Method method : of.getDeclaredMethods()) {
            if (java.lang.reflect.Modifier.isPublic(method.getModifiers())) {
                found.put(method.getName(), method);
            }
        }
        return found;
    }

    /** A number from 0 to below; always the same row of numbers for the same run. */
    private int any(int below) {
        seed = seed * 6364136223846793005L + 1442695040888963407L;
        return (int) ((seed >>> 33) % below);
    }

    private boolean oneIn(int of) {
        return any(of) == 0;
    }

    private void run(int run) {
        build(run);
        for (int i = told.size(); i < CALLS && !isWrong; i++) {
            if (oneIn(12)) {
                strangeCall();
            } else {
                likelyCall();
            }
        }
        Due.holds("run " + run + ": " + (isWrong ? told : ""), !isWrong);
    }

    private void build(int run) {
        if (run % 8 == 0) {
            // So that some runs meet the last minutes of the house.
            for (int k = 0; k < 8; k++) {
                call("pass", 560 + any(41));
            }
        }
        int rooms = 1 + any(4);
        for (int k = 0; k < rooms; k++) {
            call("room", oneIn(8) ? any(4096) : 2 | (any(4096) & any(4096) & any(4096) & ~(oneIn(9) ? 0 : 1)));
            int puzzles = run % 3 == 0 ? 8 : 1 + any(8);
            for (int p = 0; p < puzzles; p++) {
                anyPuzzle(k);
            }
        }
    }

    private void anyPuzzle(int room) {
        int needs = oneIn(3) ? 2 : 1 << any(5) | (oneIn(4) ? 1 << any(6) : 0);
        int gives = (oneIn(4) ? 1 : 1 << any(5)) | (oneIn(4) ? 1 << any(6) : 0);
        call("puzzle", room, needs, oneIn(20) ? gives : gives & ~needs, oneIn(2) ? -1 : any(8), 1 + any(10));
    }

    private void likelyCall() {
        int room = lately(4);
        switch (any(30)) {
            case 0: case 1:
                call("book", room, Math.min(4940, naive.minute() + (oneIn(3) ? 0 : any(300))));
                break;
            case 2:
                call("cancel", any(oneIn(4) ? 30 : 4));
                break;
            case 3:
                call("offer", room, Math.min(4940, naive.minute() + any(200)));
                break;
            case 4: case 5: case 6: case 7: case 8:
                call("pass", oneIn(6) ? 1 + any(60) : 1 + any(6));
                break;
            case 9: case 10:
                call("prop", any(8), oneIn(3));
                break;
            case 11:
                anyPuzzle(room);
                break;
            case 12:
                call(oneIn(2) ? "orders" : "ordersAnew", room);
                break;
            case 13:
                call(oneIn(2) ? "canBeLeft" : "had", room, any(4096));
                break;
            default:
                fittingCall(any(Math.max(1, count("state"))));
                break;
        }
    }

    /** A call that a room in its state mostly allows. */
    private void fittingCall(int room) {
        if (count("state") == 0 || oneIn(10)) {
            call(oneIn(2) ? "reset" : "come", room, any(3), oneIn(2));
            return;
        }
        int group = naive.state(room, 3);
        switch (naive.state(room, 0)) {
            case KeylessHall.READY:
                call("come", room);
                break;
            case KeylessHall.PLAYED:
                if (oneIn(12)) {
                    call("giveUp", group);
                } else {
                    call(oneIn(4) ? "hint" : "solve", group, any(8));
                }
                break;
            case KeylessHall.DIRTY:
                call("reset", room, any(3), oneIn(2));
                break;
            default:
                if (oneIn(3)) {
                    call("forget", any(3));
                } else {
                    call("pass", 1 + any(5));
                }
                break;
        }
    }

    private int lately(int below) {
        return Math.min(any(below), any(below));
    }

    private int strangeNumber() {
        switch (any(8)) {
            case 0:
                return -1;
            case 1:
                return -2;
            case 2:
                return Integer.MIN_VALUE;
            case 3:
                return Integer.MAX_VALUE;
            case 4:
                return any(8192);
            case 5:
                return any(700);
            default:
                return any(12);
        }
    }

    private void strangeCall() {
        List<String> names = new ArrayList<>(HALL.keySet());
        String name = names.get(any(names.size()));
        if (name.equals("pass") && oneIn(2)) {
            return;
        }
        int[] numbers = new int[5];
        for (int i = 0; i < numbers.length; i++) {
            numbers[i] = oneIn(2) ? any(3) : strangeNumber();
        }
        call(name, numbers[0], numbers[1], numbers[2], numbers[3], numbers[4]);
    }

    private void call(String name, boolean last, int... numbers) {
        Object[] arguments = new Object[HALL.get(name).getParameterCount()];
        for (int i = 0; i < arguments.length; i++) {
            boolean isInt = HALL.get(name).getParameterTypes()[i] == int.class;
            arguments[i] = isInt ? (Object) numbers[i] : (Object) last;
        }
        String before = snapshot(HALL, hall);
        String want = answer(NAIVE.get(name), naive, arguments);
        String got = answer(HALL.get(name), hall, arguments);
        told.add(name + java.util.Arrays.toString(arguments) + " = " + got);
        ANSWERED.merge(name + (got.startsWith("throws") ? " " + got : ""), 1, Integer::sum);
        String after = snapshot(HALL, hall);
        if (!got.equals(want)) {
            wrong("due is " + want);
        } else if (!after.equals(snapshot(NAIVE, naive))) {
            wrong("state " + after + ", due is " + snapshot(NAIVE, naive));
        } else if (got.startsWith("throws") && !after.equals(before)) {
            wrong("a call that throws changed " + before + " into " + after);
        }
    }

    private void call(String name, int... numbers) {
        call(name, numbers.length > 3 && numbers[3] % 2 == 0, numbers);
    }

    private void call(String name, int first, boolean last) {
        call(name, last, first);
    }

    private void call(String name, int first, int second, boolean last) {
        call(name, last, first, second);
    }

    private void wrong(String how) {
        isWrong = true;
        told.add(how);
    }

    private static String answer(Method method, Object of, Object... arguments) {
        try {
            return String.valueOf(method.invoke(of, arguments));
        } catch (InvocationTargetException e) {
            if (e.getCause() instanceof Error) {
                throw (Error) e.getCause();
            }
            return "throws." + e.getCause().getClass().getSimpleName();
        } catch (IllegalAccessException e) {
            throw new AssertionError(e);
        }
    }

    private int count(String of) {
        int count = 0;
        while (!answer(NAIVE.get(of), naive, count, 0).startsWith("throws")) {
            count++;
        }
        return count;
    }

    /** All that can be asked, of all that there is. */
    private static String snapshot(Map<String, Method> methods, Object of) {
        StringBuilder text = new StringBuilder(answer(methods.get("minute"), of));
        String[] names = {"state", "group", "crew", "booking"};
        int[] whats = {5, 6, 3, 4};
        for (int i = 0; i < names.length; i++) {
            text.append(' ').append(names[i]);
            String first = answer(methods.get(names[i]), of, 0, 0);
            for (int number = 0; !first.startsWith("throws"); number++) {
                text.append(' ').append(first);
                for (int what = 1; what < whats[i]; what++) {
                    text.append(',').append(answer(methods.get(names[i]), of, number, what));
                }
                first = answer(methods.get(names[i]), of, number + 1, 0);
            }
        }
        return text.toString();
    }

    /** Runs in which a call never succeeds, or an exception of the face never comes, would tell too little. */
    private static void everyKindOfAnswerCame() {
        for (Map.Entry<String, Method> entry : HALL.entrySet()) {
            Due.holds(entry.getKey() + " answered", ANSWERED.getOrDefault(entry.getKey(), 0) > 100);
            for (Class<?> thrown : entry.getValue().getExceptionTypes()) {
                String kind = entry.getKey() + " throws." + thrown.getSimpleName();
                Due.holds(kind, ANSWERED.getOrDefault(kind, 0) > 0);
            }
        }
    }
}
