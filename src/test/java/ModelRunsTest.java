import java.lang.reflect.InvocationTargetException;
import java.lang.reflect.Method;
import java.util.ArrayList;
import java.util.List;

/** Runs of 512 calls on RegionNets and on PlainModel side by side: the answers must be the same. */
public final class ModelRunsTest {
    private static final int RUNS = 600;
    private static final int CALLS = 512;
    private static final String[] CHANGES = {"addState", "step", "unstep", "rename"};

    private final Due due = new Due("ModelRunsTest");
    private final List<Method> calls = new ArrayList<>();
    private long dice = 20261119L;

    public static void main(String[] args) throws ReflectiveOperationException {
        new ModelRunsTest().run();
    }

    private void run() throws ReflectiveOperationException {
        for (String line : FaceTest.METHODS) {
            calls.add(face(line));
        }
        for (int run = 0; run < RUNS && due.wrong() < 20; run++) {
            playRun(run);
        }
        due.end();
    }

    private static Method face(String line) {
        for (Method method : RegionNets.class.getMethods()) {
            if (FaceTest.told(method).equals(line)) {
                return method;
            }
        }
        throw new IllegalArgumentException("the face has no " + line);
    }

    // Numbers of our own, so that each run of the tests is the same.
    private int below(int bound) {
        dice = dice * 6364136223846793005L + 1442695040888963407L;
        return (int) ((dice >>> 33) % bound);
    }

    private void playRun(int run) throws ReflectiveOperationException {
        RegionNets program = new RegionNets();
        PlainModel model = new PlainModel();
        List<int[]> plan = plan(run % 6);
        boolean calm = below(2) == 0;
        for (int i = 1; i < CALLS; i++) {
            Method call;
            Object[] args;
            if (i <= plan.size()) {
                int[] numbers = plan.get(i - 1);
                call = named(numbers.length == 0 ? "addState" : "step");
                args = boxed(numbers);
            } else {
                call = chosen(calm);
                args = arguments(call, model.stateCount());
            }
            compare("run " + run + " call " + i, call, args, program, model);
        }
        due.is("run " + run + " digest() as call " + CALLS, program.digest(), model.digest());
    }

    private Method named(String name) {
        for (Method call : calls) {
            if (call.getName().equals(name)) {
                return call;
            }
        }
        throw new IllegalArgumentException(name);
    }

    // In a calm run changes are rare, so that the net lives long.
    private Method chosen(boolean calm) {
        Method call = calls.get(below(calls.size()));
        for (String change : CHANGES) {
            if (call.getName().equals(change) && below(calm ? 12 : 2) != 0) {
                return named(below(4) == 0 ? "makeNet" : "fire");
            }
        }
        return call;
    }

    private Object[] arguments(Method call, int states) {
        Object[] args = new Object[call.getParameterCount()];
        String name = call.getName();
        for (int i = 0; i < args.length; i++) {
            boolean set = i == 0 && List.of("crossing", "isRegion", "grow").contains(name);
            boolean region = List.of("region", "isLeast").contains(name);
            boolean marking = List.of("placeRegion", "markingAt").contains(name);
            boolean label = name.equals("rename") || List.of("fire", "consumed", "produced").contains(name)
                || i == 1 && !name.equals("apart");
            int bound = set ? 1 << states : region ? 1 + below(40) : marking ? 12 : label ? 6 : states;
            args[i] = below(20) == 0 ? odd(bound) : below(bound);
        }
        return args;
    }

    private int odd(int bound) {
        int[] odd = {-1, bound, bound + 1, -bound, Integer.MIN_VALUE, Integer.MAX_VALUE, 31, 4096, 1 << 30};
        return odd[below(odd.length)];
    }

    private static Object[] boxed(int[] numbers) {
        Object[] boxed = new Object[numbers.length];
        for (int i = 0; i < numbers.length; i++) {
            boxed[i] = numbers[i];
        }
        return boxed;
    }

    private void compare(String where, Method call, Object[] args, RegionNets program, PlainModel model)
            throws ReflectiveOperationException {
        Method twin = PlainModel.class.getMethod(call.getName(), call.getParameterTypes());
        String what = where + ": " + call.getName() + List.of(args);
        due.isText(what, answer(call, program, args), answer(twin, model, args));
    }

    private static String answer(Method call, Object on, Object[] args) throws IllegalAccessException {
        try {
            return String.valueOf(call.invoke(on, args));
        } catch (InvocationTargetException e) {
            return "throws." + e.getCause().getClass().getSimpleName();
        }
    }

    /** The calls that build a system: an empty row adds a state, the others are steps. */
    private List<int[]> plan(int kind) {
        List<int[]> plan = new ArrayList<>();
        int states = kind == 0 ? 1 + below(4) : kind == 2 ? 12 : kind == 3 ? 6 + below(7) : 2 + below(11);
        int across = 2 + below(3);
        for (int s = 1; s < states; s++) {
            plan.add(new int[0]);
        }
        switch (kind) {
            case 1 -> addCycle(plan, states, 1 + below(6));
            case 2, 3 -> addGrid(plan, states, across);
            case 4 -> addDrift(plan, states);
            default -> addSparse(plan, states, below(14));
        }
        return plan;
    }

    private void addCycle(List<int[]> plan, int states, int labels) {
        for (int s = 0; s < states; s++) {
            plan.add(new int[] {s, s % labels, (s + 1) % states});
        }
    }

    // Two labels that go on without regard to one another, or nearly so.
    private void addGrid(List<int[]> plan, int states, int across) {
        boolean round = below(2) == 0;
        for (int s = 0; s < states; s++) {
            int right = (s + 1) % across == 0 ? s + 1 - across : s + 1;
            if (right < states && (round || right > s) && below(12) != 0) {
                plan.add(new int[] {s, right > s ? s % across % 3 : 5, right});
            }
            if (s + across < states && below(12) != 0) {
                plan.add(new int[] {s, 3 + s / across % 2, s + across});
            }
        }
    }

    private void addDrift(List<int[]> plan, int states) {
        for (int s = 1; s < states; s++) {
            plan.add(new int[] {below(s), below(6), s});
        }
    }

    private void addSparse(List<int[]> plan, int states, int steps) {
        for (int i = 0; i < steps; i++) {
            plan.add(new int[] {below(states), below(6), below(states)});
        }
    }
}
