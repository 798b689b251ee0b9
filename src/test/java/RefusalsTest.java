import java.util.function.Consumer;

/** The two sentences on exceptions that bind all methods, for each method and each argument. */
public final class RefusalsTest {
    private static final Class<IndexOutOfBoundsException> INDEX = IndexOutOfBoundsException.class;
    private static final Class<IllegalArgumentException> ARGUMENT = IllegalArgumentException.class;
    private static final Class<IllegalStateException> STATE = IllegalStateException.class;
    private static final Due DUE = new Due("RefusalsTest");

    private static final int[] NO_STATES = Systems.noStates(12);
    private static final int[] NO_LABELS = Systems.NO_LABELS;
    private static final int[] NO_SETS = Systems.noSets(12);

    public static void main(String[] args) {
        DUE.sentence("A method that throws an exception changes nothing.", () -> {
            refusedChanges();
            refusedQuestions();
            refusedPlays();
            refusedWithoutNet();
        });
        DUE.sentence("If several exceptions apply, the one that is named first is thrown.", () -> {
            argumentBeforeIndex();
            stateBeforeIndex();
            indexBeforeState();
        });
        DUE.end();
    }

    /** Twelve states; the state 3 has steps with the labels 4 and 5. */
    private static RegionNets full() {
        return Systems.system(12, 0, 0, 1, 1, 1, 2, 2, 2, 0, 3, 4, 5, 3, 5, 3);
    }

    /** The same with a net that was played. */
    private static RegionNets played() {
        RegionNets x = full();
        x.makeNet();
        x.fire(0);
        return x;
    }

    // Each call gets objects of its own, so that none is used for more than 512 calls.
    private static void refused(String what, Class<? extends RuntimeException> why, Consumer<RegionNets> call) {
        RegionNets x = played();
        String before = Systems.told(x);
        DUE.isThrown(what, why, () -> call.accept(x));
        DUE.isText("all behind the refused " + what, Systems.told(x), before);
    }

    private static void refusedChanges() {
        refused("addState()", STATE, x -> x.addState());
        refused("rename(4, 5)", STATE, x -> x.rename(4, 5));
        refused("rename(5, 4)", STATE, x -> x.rename(5, 4));
        for (int no : NO_STATES) {
            refused("step(" + no + ", 0, 0)", INDEX, x -> x.step(no, 0, 0));
            refused("step(0, 0, " + no + ")", INDEX, x -> x.step(0, 0, no));
            refused("step(0, 3, " + no + ")", INDEX, x -> x.step(0, 3, no));
            refused("unstep(" + no + ", 0)", INDEX, x -> x.unstep(no, 0));
        }
        for (int no : NO_LABELS) {
            refused("step(0, " + no + ", 5)", INDEX, x -> x.step(0, no, 5));
            refused("unstep(0, " + no + ")", INDEX, x -> x.unstep(0, no));
            refused("rename(0, " + no + ")", INDEX, x -> x.rename(0, no));
            refused("rename(" + no + ", 3)", INDEX, x -> x.rename(no, 3));
        }
    }

    private static void refusedQuestions() {
        for (int no : NO_STATES) {
            refused("target(" + no + ", 0)", INDEX, x -> x.target(no, 0));
            refused("enabled(" + no + ")", INDEX, x -> x.enabled(no));
            refused("distance(" + no + ")", INDEX, x -> x.distance(no));
            refused("apart(" + no + ", 0)", INDEX, x -> x.apart(no, 0));
            refused("apart(0, " + no + ")", INDEX, x -> x.apart(0, no));
            refused("preventer(" + no + ", 0)", INDEX, x -> x.preventer(no, 0));
        }
        for (int no : NO_LABELS) {
            refused("target(0, " + no + ")", INDEX, x -> x.target(0, no));
            refused("crossing(1, " + no + ")", INDEX, x -> x.crossing(1, no));
            refused("preventer(0, " + no + ")", INDEX, x -> x.preventer(0, no));
        }
        for (int no : NO_SETS) {
            refused("crossing(" + no + ", 0)", ARGUMENT, x -> x.crossing(no, 0));
            refused("isRegion(" + no + ")", ARGUMENT, x -> x.isRegion(no));
            refused("grow(" + no + ")", ARGUMENT, x -> x.grow(no));
        }
        for (int no : new int[] {-1, 4094, 4095, Integer.MIN_VALUE, Integer.MAX_VALUE}) {
            refused("region(" + no + ")", INDEX, x -> x.region(no));
            refused("isLeast(" + no + ")", INDEX, x -> x.isLeast(no));
        }
    }

    private static void refusedPlays() {
        for (int no : NO_LABELS) {
            refused("consumed(" + no + ")", INDEX, x -> x.consumed(no));
            refused("produced(" + no + ")", INDEX, x -> x.produced(no));
            refused("fire(" + no + ")", INDEX, x -> x.fire(no));
        }
        for (int no : new int[] {-1, 12, 30, 31, 32, Integer.MIN_VALUE, Integer.MAX_VALUE}) {
            refused("placeRegion(" + no + ")", INDEX, x -> x.placeRegion(no));
        }
        for (int no : new int[] {-1, 3, 200, Integer.MIN_VALUE, Integer.MAX_VALUE}) {
            refused("markingAt(" + no + ")", INDEX, x -> x.markingAt(no));
        }
    }

    private static void refusedWithoutNet() {
        refusedFor("placeRegion(0)", x -> x.placeRegion(0));
        refusedFor("consumed(0)", x -> x.consumed(0));
        refusedFor("produced(0)", x -> x.produced(0));
        refusedFor("marking()", x -> x.marking());
        refusedFor("fire(0)", x -> x.fire(0));
        refusedFor("markingCount()", x -> x.markingCount());
        refusedFor("markingAt(0)", x -> x.markingAt(0));
        refusedFor("isFaithful()", x -> x.isFaithful());
    }

    private static void refusedFor(String what, Consumer<RegionNets> call) {
        RegionNets x = full();
        String before = Systems.told(x);
        DUE.isThrown(what + " without a net", STATE, () -> call.accept(x));
        DUE.isText("all behind " + what + " without a net", Systems.told(x), before);
    }

    // ---- which of several

    private static void argumentBeforeIndex() {
        for (int set : NO_SETS) {
            for (int label : NO_LABELS) {
                DUE.isThrown("crossing(" + set + ", " + label + ")", ARGUMENT, () -> full().crossing(set, label));
            }
        }
    }

    private static void stateBeforeIndex() {
        for (RegionNets x : new RegionNets[] {new RegionNets(), full()}) {
            for (int no : NO_LABELS) {
                DUE.isThrown("consumed(" + no + ") without a net", STATE, () -> x.consumed(no));
                DUE.isThrown("produced(" + no + ") without a net", STATE, () -> x.produced(no));
                DUE.isThrown("fire(" + no + ") without a net", STATE, () -> x.fire(no));
            }
            for (int no : new int[] {-1, 0, 12, 30, 200, Integer.MIN_VALUE, Integer.MAX_VALUE}) {
                DUE.isThrown("placeRegion(" + no + ") without a net", STATE, () -> x.placeRegion(no));
                DUE.isThrown("markingAt(" + no + ") without a net", STATE, () -> x.markingAt(no));
            }
        }
        RegionNets changed = played();
        changed.rename(3, 3);
        DUE.isThrown("fire(6) behind a change", STATE, () -> changed.fire(6));
        DUE.isThrown("placeRegion(12) behind a change", STATE, () -> changed.placeRegion(12));
    }

    // A label that is none has no steps, so these two never apply at once: only that one is thrown.
    private static void indexBeforeState() {
        for (int no : NO_LABELS) {
            DUE.isThrown("rename(4, " + no + ")", INDEX, () -> full().rename(4, no));
            DUE.isThrown("rename(" + no + ", 5)", INDEX, () -> full().rename(no, 5));
            DUE.isThrown("rename(" + no + ", " + no + ")", INDEX, () -> full().rename(no, no));
        }
    }
}
