/** Each promise of the document by itself: ordinary calls, the edges it names, and wrong ones. */
public final class PromisesTest {
    private static final Class<IndexOutOfBoundsException> INDEX = IndexOutOfBoundsException.class;
    private static final Class<IllegalArgumentException> ARGUMENT = IllegalArgumentException.class;
    private static final Class<IllegalStateException> STATE = IllegalStateException.class;
    private static final int[] NO_LABELS = Systems.NO_LABELS;

    private static final Due DUE = new Due("PromisesTest");

    public static void main(String[] args) {
        systems();
        searches();
        crossings();
        regions();
        growing();
        quality();
        makingNets();
        playing();
        comparing();
        digests();
        DUE.end();
    }

    // ---- promises 1 to 8

    private static void systems() {
        newObject();
        addingStates();
        stepping();
        unstepping();
        renaming();
        looking();
    }

    private static void newObject() {
        RegionNets x = new RegionNets();
        DUE.is("new: stateCount()", x.stateCount(), 1);
        DUE.is("new: enabled(0)", x.enabled(0), 0);
        DUE.is("new: hasNet()", x.hasNet(), false);
        for (int label = 0; label < 6; label++) {
            DUE.is("new: target(0, " + label + ")", x.target(0, label), -1);
        }
        DUE.is("new: digest()", x.digest(), Systems.digestOf(1, -1, -1, -1, -1, -1, -1, 0));
        RegionNets y = Systems.system(12);
        DUE.is("another object is not touched: stateCount()", x.stateCount(), 1);
        DUE.is("the other one: stateCount()", y.stateCount(), 12);
    }

    private static void addingStates() {
        RegionNets x = new RegionNets();
        for (int s = 1; s < 12; s++) {
            DUE.is("addState()", x.addState(), s);
            DUE.is("stateCount() after addState()", x.stateCount(), s + 1);
            DUE.is("enabled() of the added state", x.enabled(s), 0);
        }
        x.makeNet();
        DUE.isThrown("addState() with 12 states", STATE, x::addState);
        DUE.is("stateCount() after the refused addState()", x.stateCount(), 12);
        DUE.is("hasNet() after the refused addState()", x.hasNet(), true);
    }

    private static void stepping() {
        RegionNets x = Systems.system(3);
        DUE.is("step(0, 5, 2)", x.step(0, 5, 2), -1);
        DUE.is("step(0, 5, 1) in its place", x.step(0, 5, 1), 2);
        DUE.is("step(0, 5, 1) again", x.step(0, 5, 1), 1);
        DUE.is("step(0, 0, 0)", x.step(0, 0, 0), -1);
        DUE.is("target(0, 5)", x.target(0, 5), 1);
        DUE.is("target(0, 0)", x.target(0, 0), 0);
        DUE.is("crossing({1}, 5) after the step was replaced", x.crossing(2, 5), 1);
        DUE.is("crossing({2}, 5) after the step was replaced", x.crossing(4, 5), 0);
        x.makeNet();
        long before = x.digest();
        for (int no : new int[] {-1, 3, 12, Integer.MIN_VALUE, Integer.MAX_VALUE}) {
            DUE.isThrown("step(" + no + ", 0, 0)", INDEX, () -> x.step(no, 0, 0));
            DUE.isThrown("step(0, 0, " + no + ")", INDEX, () -> x.step(0, 0, no));
        }
        for (int no : NO_LABELS) {
            DUE.isThrown("step(0, " + no + ", 0)", INDEX, () -> x.step(0, no, 0));
        }
        DUE.is("digest() after refused steps", x.digest(), before);
        DUE.is("hasNet() after refused steps", x.hasNet(), true);
        x.step(0, 5, 1);
        DUE.is("hasNet() after a step that changes nothing", x.hasNet(), false);
    }

    private static void unstepping() {
        RegionNets x = Systems.system(3, 0, 1, 2, 2, 1, 2);
        DUE.is("unstep(0, 1)", x.unstep(0, 1), true);
        DUE.is("unstep(0, 1) again", x.unstep(0, 1), false);
        DUE.is("unstep(1, 1)", x.unstep(1, 1), false);
        DUE.is("target(0, 1) after unstep", x.target(0, 1), -1);
        DUE.is("target(2, 1) after unstep", x.target(2, 1), 2);
        DUE.is("crossing({2}, 1) after unstep", x.crossing(4, 1), 0);
        x.makeNet();
        DUE.isThrown("unstep(3, 1)", INDEX, () -> x.unstep(3, 1));
        DUE.isThrown("unstep(-1, 1)", INDEX, () -> x.unstep(-1, 1));
        for (int no : NO_LABELS) {
            DUE.isThrown("unstep(0, " + no + ")", INDEX, () -> x.unstep(0, no));
        }
        DUE.is("hasNet() after refused unsteps", x.hasNet(), true);
        x.unstep(0, 0);
        DUE.is("hasNet() after an unstep of nothing", x.hasNet(), false);
    }

    private static void renaming() {
        RegionNets x = Systems.system(4, 0, 0, 1, 1, 0, 2, 2, 3, 0, 3, 0, 3, 0, 4, 0);
        DUE.is("rename(0, 3)", x.rename(0, 3), 3);
        DUE.is("target(0, 3)", x.target(0, 3), 1);
        DUE.is("target(1, 3)", x.target(1, 3), 2);
        DUE.is("target(2, 3)", x.target(2, 3), 0);
        DUE.is("target(3, 3)", x.target(3, 3), 3);
        DUE.is("target(0, 0)", x.target(0, 0), -1);
        DUE.is("crossing({0}, 0) after rename", x.crossing(1, 0), 0);
        DUE.is("crossing({0}, 3) after rename", x.crossing(1, 3), 3);
        DUE.is("crossing({0, 1, 2}, 3) after rename", x.crossing(7, 3), 0);
        DUE.is("rename(0, 1) without steps", x.rename(0, 1), 0);
        DUE.is("rename(3, 3)", x.rename(3, 3), 4);
        DUE.is("target(1, 3) after rename(3, 3)", x.target(1, 3), 2);
        x.makeNet();
        long before = x.digest();
        DUE.isThrown("rename(4, 3)", STATE, () -> x.rename(4, 3));
        DUE.isThrown("rename(3, 4)", STATE, () -> x.rename(3, 4));
        for (int no : NO_LABELS) {
            DUE.isThrown("rename(" + no + ", 3)", INDEX, () -> x.rename(no, 3));
            DUE.isThrown("rename(3, " + no + ")", INDEX, () -> x.rename(3, no));
            DUE.isThrown("rename(" + no + ", " + no + ")", INDEX, () -> x.rename(no, no));
        }
        DUE.is("digest() after refused renames", x.digest(), before);
        x.rename(5, 5);
        DUE.is("hasNet() after rename(5, 5)", x.hasNet(), false);
        x.makeNet();
        x.rename(5, 2);
        DUE.is("hasNet() after a rename of nothing", x.hasNet(), false);
    }

    private static void looking() {
        RegionNets x = Systems.system(12, 11, 5, 11, 11, 0, 0, 3, 2, 4);
        DUE.is("target(11, 5)", x.target(11, 5), 11);
        DUE.is("target(11, 0)", x.target(11, 0), 0);
        DUE.is("target(11, 4)", x.target(11, 4), -1);
        DUE.is("enabled(11)", x.enabled(11), 33);
        DUE.is("enabled(3)", x.enabled(3), 4);
        DUE.is("enabled(4)", x.enabled(4), 0);
        for (int no : NO_LABELS) {
            DUE.isThrown("target(0, " + no + ")", INDEX, () -> x.target(0, no));
        }
        for (int no : new int[] {-1, 12, 13, Integer.MIN_VALUE, Integer.MAX_VALUE}) {
            DUE.isThrown("target(" + no + ", 0)", INDEX, () -> x.target(no, 0));
            DUE.isThrown("enabled(" + no + ")", INDEX, () -> x.enabled(no));
        }
        RegionNets one = new RegionNets();
        DUE.isThrown("target(1, 0) of one state", INDEX, () -> one.target(1, 0));
        DUE.isThrown("enabled(1) of one state", INDEX, () -> one.enabled(1));
    }

    // ---- promises 9 and 10

    private static void searches() {
        RegionNets x = Systems.system(6, 0, 0, 1, 1, 0, 2, 2, 0, 3, 0, 1, 3, 4, 0, 0, 3, 2, 1);
        DUE.is("reached()", x.reached(), 15);
        int[] far = {0, 1, 2, 1, -1, -1};
        for (int s = 0; s < 6; s++) {
            DUE.is("distance(" + s + ")", x.distance(s), far[s]);
        }
        x.step(2, 3, 4);
        DUE.is("distance(4) with a step more", x.distance(4), 3);
        DUE.is("reached() with a step more", x.reached(), 31);
        for (int no : new int[] {-1, 6, 12, 32, Integer.MIN_VALUE, Integer.MAX_VALUE}) {
            DUE.isThrown("distance(" + no + ")", INDEX, () -> x.distance(no));
        }
        RegionNets one = new RegionNets();
        DUE.is("reached() of one state", one.reached(), 1);
        DUE.is("distance(0) of one state", one.distance(0), 0);
        // The way leads downwards through the numbers, so that each round finds one state.
        RegionNets way = Systems.system(12, 0, 0, 11);
        for (int s = 11; s > 1; s--) {
            way.step(s, s % 6, s - 1);
        }
        DUE.is("reached() of a way", way.reached(), 4095);
        DUE.is("distance(1) of a way", way.distance(1), 11);
        DUE.is("distance(11) of a way", way.distance(11), 1);
    }

    // ---- promises 11 and 12

    private static void crossings() {
        RegionNets x = Systems.system(4, 0, 0, 1, 2, 0, 3, 0, 1, 0, 1, 1, 1);
        DUE.is("crossing({}, 0)", x.crossing(0, 0), 0);
        DUE.is("crossing(all, 0)", x.crossing(15, 0), 0);
        DUE.is("crossing({0, 1}, 0)", x.crossing(3, 0), 0);
        DUE.is("crossing({1, 3}, 0)", x.crossing(10, 0), 1);
        DUE.is("crossing({0, 2}, 0)", x.crossing(5, 0), 2);
        DUE.is("crossing({0}, 0): one leads out, one nowhere near", x.crossing(1, 0), 3);
        DUE.is("crossing({1}, 0): one leads in, one nowhere near", x.crossing(2, 0), 3);
        DUE.is("crossing({0, 3}, 0): one leads out, one in", x.crossing(9, 0), 3);
        DUE.is("crossing({0, 1, 2}, 0): one inside, one leads out", x.crossing(7, 0), 3);
        DUE.is("crossing({0}, 1): steps that stay", x.crossing(1, 1), 0);
        DUE.is("crossing({0}, 2): no steps", x.crossing(1, 2), 0);
        crossingsRefused(x);
        DUE.is("isRegion({})", x.isRegion(0), false);
        DUE.is("isRegion(all)", x.isRegion(15), false);
        DUE.is("isRegion({0, 1})", x.isRegion(3), true);
        DUE.is("isRegion({0})", x.isRegion(1), false);
        DUE.is("isRegion({1, 3})", x.isRegion(10), true);
        DUE.is("isRegion(all) of one state", new RegionNets().isRegion(1), false);
        RegionNets far = Systems.system(12, 11, 5, 0, 5, 5, 6);
        DUE.is("crossing({5, 11}, 5)", far.crossing(1 << 5 | 1 << 11, 5), 2);
        DUE.is("crossing({0, 6}, 5)", far.crossing(1 | 1 << 6, 5), 1);
        DUE.is("crossing({5, 6}, 5)", far.crossing(1 << 5 | 1 << 6, 5), 0);
        DUE.is("crossing({0, 5}, 5)", far.crossing(1 | 1 << 5, 5), 3);
        DUE.is("isRegion({0, 11})", far.isRegion(1 | 1 << 11), true);
    }

    private static void crossingsRefused(RegionNets x) {
        for (int no : new int[] {16, 17, -1, 4096, 1 << 30, Integer.MIN_VALUE, Integer.MAX_VALUE}) {
            DUE.isThrown("crossing(" + no + ", 0)", ARGUMENT, () -> x.crossing(no, 0));
            DUE.isThrown("crossing(" + no + ", 6)", ARGUMENT, () -> x.crossing(no, 6));
            DUE.isThrown("isRegion(" + no + ")", ARGUMENT, () -> x.isRegion(no));
        }
        for (int no : NO_LABELS) {
            DUE.isThrown("crossing(1, " + no + ")", INDEX, () -> x.crossing(1, no));
        }
    }

    // ---- promises 13 to 15, 17 and 18

    private static void regions() {
        RegionNets x = Systems.diamond();
        int[] sets = {3, 5, 10, 12};
        DUE.is("regionCount() of the diamond", x.regionCount(), 4);
        for (int i = 0; i < 4; i++) {
            DUE.is("region(" + i + ")", x.region(i), sets[i]);
            DUE.is("isLeast(" + i + ")", x.isLeast(i), true);
        }
        RegionNets ring = Systems.ring();
        boolean[] least = {true, true, false, true, false, false};
        for (int i = 0; i < 6; i++) {
            DUE.is("ring: region(" + i + ")", ring.region(i), i + 1);
            DUE.is("ring: isLeast(" + i + ")", ring.isLeast(i), least[i]);
        }
        for (int no : new int[] {-1, 6, 4094, Integer.MIN_VALUE, Integer.MAX_VALUE}) {
            DUE.isThrown("region(" + no + ")", INDEX, () -> ring.region(no));
            DUE.isThrown("isLeast(" + no + ")", INDEX, () -> ring.isLeast(no));
        }
        ring.step(0, 1, 0);
        DUE.is("regionCount() after a change", ring.regionCount(), 2);
        RegionNets full = Systems.system(12);
        DUE.is("regionCount() without steps", full.regionCount(), 4094);
        DUE.is("region(4093) without steps", full.region(4093), 4094);
        DUE.is("isLeast(4093) without steps", full.isLeast(4093), false);
        DUE.is("isLeast(2047) without steps", full.isLeast(2047), true);
        DUE.isThrown("region(4094) without steps", INDEX, () -> full.region(4094));
        DUE.is("regionCount() of one state", new RegionNets().regionCount(), 0);
        DUE.isThrown("region(0) of one state", INDEX, () -> new RegionNets().region(0));
        DUE.isThrown("isLeast(0) of one state", INDEX, () -> new RegionNets().isLeast(0));
        RegionNets first = Systems.system(3, 0, 0, 0, 1, 1, 2, 2, 1, 1);
        DUE.is("regionCount() of a loop and a pair", first.regionCount(), 2);
        RegionNets lone = Systems.system(4, 1, 0, 3, 3, 0, 1, 1, 1, 2, 2, 1, 1);
        DUE.is("regionCount() of {0} and {1, 2, 3}", lone.regionCount(), 2);
        DUE.is("isLeast(1) of {1, 2, 3}", lone.isLeast(1), true);
        RegionNets part = Systems.system(4, 1, 0, 2, 2, 0, 1);
        DUE.is("region(2): {0, 1, 2}, of which {0} and {1, 2} are parts", part.region(2), 7);
        DUE.is("isLeast(2): {0, 1, 2}", part.isLeast(2), false);
        telling(x);
        preventing(x);
        afterChanges();
    }

    // What was found before a change must not be seen behind it.
    private static void afterChanges() {
        RegionNets x = Systems.system(3);
        DUE.is("apart(0, 1) before the steps", x.apart(0, 1), 0);
        x.step(0, 0, 1);
        x.step(1, 0, 0);
        x.step(1, 1, 2);
        x.step(2, 1, 1);
        DUE.is("regionCount() behind the steps", x.regionCount(), 0);
        DUE.is("apart(0, 1) behind the steps", x.apart(0, 1), -1);
        RegionNets y = Systems.system(2, 0, 0, 1);
        DUE.is("preventer(1, 0) before the step", y.preventer(1, 0), 0);
        y.step(1, 1, 0);
        DUE.is("preventer(1, 0) behind the step", y.preventer(1, 0), 0);
        y.rename(1, 0);
        y.unstep(1, 0);
        y.step(0, 0, 0);
        y.step(1, 1, 1);
        DUE.is("regionCount() of two loops", y.regionCount(), 2);
        DUE.is("preventer(1, 0) of two loops", y.preventer(1, 0), -1);
        RegionNets z = Systems.diamond();
        z.makeNet();
        DUE.is("markingCount() before a change", z.markingCount(), 4);
        z.step(0, 0, 1);
        z.makeNet();
        DUE.is("markingCount() behind a change of nothing", z.markingCount(), 4);
        z.unstep(0, 1);
        z.unstep(2, 0);
        z.makeNet();
        DUE.is("markingCount() behind a change", z.markingCount(), 3);
    }

    private static void telling(RegionNets x) {
        DUE.is("apart(0, 1)", x.apart(0, 1), 1);
        DUE.is("apart(1, 0)", x.apart(1, 0), 1);
        DUE.is("apart(0, 2)", x.apart(0, 2), 0);
        DUE.is("apart(0, 3)", x.apart(0, 3), 0);
        DUE.is("apart(2, 2)", x.apart(2, 2), -1);
        DUE.is("apart(0, 1) in swap", Systems.swap().apart(0, 1), -1);
        for (int no : new int[] {-1, 4, 12, Integer.MIN_VALUE, Integer.MAX_VALUE}) {
            DUE.isThrown("apart(" + no + ", 0)", INDEX, () -> x.apart(no, 0));
            DUE.isThrown("apart(0, " + no + ")", INDEX, () -> x.apart(0, no));
            DUE.isThrown("preventer(" + no + ", 0)", INDEX, () -> x.preventer(no, 0));
        }
        for (int no : NO_LABELS) {
            DUE.isThrown("preventer(0, " + no + ")", INDEX, () -> x.preventer(0, no));
        }
    }

    private static void preventing(RegionNets x) {
        DUE.is("preventer(0, 0): there is a step", x.preventer(0, 0), -2);
        DUE.is("preventer(1, 0): first one that it leaves", x.preventer(1, 0), 1);
        DUE.is("preventer(3, 1): first one that it leaves", x.preventer(3, 1), 0);
        DUE.is("preventer(0, 2): no steps anywhere", x.preventer(0, 2), -1);
        // In state 1 the region {1}, which the label enters, comes before {0}, which it leaves.
        RegionNets down = Systems.system(3, 2, 0, 0);
        DUE.is("preventer(0, 0): first one that it enters", down.preventer(0, 0), 0);
        DUE.is("preventer(1, 0): first one that it enters with the state in", down.preventer(1, 0), 2);
        RegionNets loop = Systems.system(2, 0, 0, 0);
        DUE.is("preventer(1, 0) where nothing is crossed", loop.preventer(1, 0), -1);
    }

    // ---- promise 16

    private static void growing() {
        RegionNets x = Systems.system(6, 0, 0, 1, 2, 0, 3, 4, 0, 5);
        DUE.is("grow({0}): where steps begin", x.grow(1), 21);
        DUE.is("grow({1}): where steps end", x.grow(2), 42);
        DUE.is("grow({0, 1}): no label is mixed", x.grow(3), 3);
        DUE.is("grow({0, 3}): both, so where they end and then where they begin", x.grow(9), 63);
        DUE.is("grow({0, 1, 3, 5}): none of the ends is new", x.grow(43), 63);
        DUE.is("grow({})", x.grow(0), 0);
        DUE.is("grow(all)", x.grow(63), 63);
        RegionNets two = Systems.system(6, 0, 1, 1, 2, 1, 3, 0, 0, 4, 5, 0, 1);
        DUE.is("grow({0}): the smaller label first", two.grow(1), 37);
        DUE.is("grow({0, 3}): one label only, but both must rest", two.grow(9), 63);
        RegionNets chain = Systems.system(5, 0, 2, 1, 1, 3, 2, 1, 2, 3, 3, 3, 4, 2, 2, 4);
        DUE.is("grow({0}) of a chain", chain.grow(1), 31);
        for (int no : new int[] {64, 65, -1, 4096, Integer.MIN_VALUE, Integer.MAX_VALUE}) {
            DUE.isThrown("grow(" + no + ")", ARGUMENT, () -> x.grow(no));
        }
        DUE.is("regionCount() after growing", x.regionCount(), 8);
    }

    // ---- promises 19 to 21

    private static void quality() {
        quality("ring", Systems.ring(), 0, 0, 1.0);
        quality("diamond", Systems.diamond(), 0, 0, 1.0);
        quality("swap", Systems.swap(), 1, 0, 0.0);
        quality("one state", new RegionNets(), 0, 0, 1.0);
        quality("one state with all labels", Systems.system(1, 0, 0, 0, 0, 1, 0), 0, 0, 1.0);
        quality("two states without steps", Systems.system(2), 0, 0, 1.0);
        quality("a label that leaks", Systems.system(2, 0, 0, 0, 0, 1, 1), 0, 1, 1.0 - 1.0 / 3.0);
        quality("twelve states in one ring", Systems.ringOfOneLabel(12), 66, 0, 0.0);
        quality("a way of one label", Systems.system(3, 0, 0, 1, 1, 0, 2), 3, 1, 0.0);
        quality("a state like one with a step", Systems.system(3, 0, 0, 1, 0, 1, 2, 2, 1, 0), 1, 2, 0.5);
        quality("unreached states count", Systems.system(4, 0, 0, 1, 3, 0, 3, 2, 1, 2), 1, 5, 1.0 - 6.0 / 11.0);
    }

    private static void quality(String name, RegionNets x, int lumps, int leaks, double fidelity) {
        DUE.is(name + ": lumps()", x.lumps(), lumps);
        DUE.is(name + ": leaks()", x.leaks(), leaks);
        DUE.isDouble(name + ": fidelity()", x.fidelity(), fidelity);
    }

    // ---- promises 22 to 26

    private static void makingNets() {
        RegionNets x = Systems.diamond();
        netAsked(x, 4);
        DUE.is("makeNet() of the diamond", x.makeNet(), 4);
        DUE.is("hasNet() after makeNet()", x.hasNet(), true);
        int[] sets = {3, 5, 10, 12};
        for (int place = 0; place < 4; place++) {
            DUE.is("placeRegion(" + place + ")", x.placeRegion(place), sets[place]);
        }
        for (int no : new int[] {-1, 4, 30, Integer.MIN_VALUE, Integer.MAX_VALUE}) {
            DUE.isThrown("placeRegion(" + no + ")", INDEX, () -> x.placeRegion(no));
        }
        DUE.is("consumed(0)", x.consumed(0), 2);
        DUE.is("produced(0)", x.produced(0), 4);
        DUE.is("consumed(1)", x.consumed(1), 1);
        DUE.is("produced(1)", x.produced(1), 8);
        DUE.is("consumed(5) without steps", x.consumed(5), 0);
        DUE.is("produced(5) without steps", x.produced(5), 0);
        for (int no : NO_LABELS) {
            DUE.isThrown("consumed(" + no + ")", INDEX, () -> x.consumed(no));
            DUE.isThrown("produced(" + no + ")", INDEX, () -> x.produced(no));
            DUE.isThrown("fire(" + no + ")", INDEX, () -> x.fire(no));
        }
        dropping(x);
        DUE.is("makeNet() of swap", Systems.swap().makeNet(), 0);
        RegionNets part = Systems.system(4, 1, 0, 2, 2, 0, 1);
        DUE.is("makeNet() where {0} and {1, 2} are parts of a region", part.makeNet(), 3);
        DUE.is("placeRegion(2) there", part.placeRegion(2), 8);
        DUE.is("makeNet() of one state", new RegionNets().makeNet(), 0);
        DUE.is("makeNet() without steps", Systems.system(12).makeNet(), 12);
        crowding();
    }

    // Without a net each of these says so, also where the number is wrong too.
    private static void netAsked(RegionNets x, int wrong) {
        DUE.is("hasNet()", x.hasNet(), false);
        for (int i : new int[] {0, -1, wrong, 6, Integer.MAX_VALUE}) {
            DUE.isThrown("placeRegion(" + i + ") without a net", STATE, () -> x.placeRegion(i));
            DUE.isThrown("consumed(" + i + ") without a net", STATE, () -> x.consumed(i));
            DUE.isThrown("produced(" + i + ") without a net", STATE, () -> x.produced(i));
            DUE.isThrown("fire(" + i + ") without a net", STATE, () -> x.fire(i));
            DUE.isThrown("markingAt(" + i + ") without a net", STATE, () -> x.markingAt(i));
        }
        DUE.isThrown("marking() without a net", STATE, x::marking);
        DUE.isThrown("markingCount() without a net", STATE, x::markingCount);
        DUE.isThrown("isFaithful() without a net", STATE, x::isFaithful);
    }

    private static void dropping(RegionNets x) {
        x.addState();
        netAsked(x, 0);
        DUE.is("makeNet() after addState()", x.makeNet(), 5);
        x.step(4, 2, 4);
        netAsked(x, 0);
        DUE.is("makeNet() after step()", x.makeNet(), 5);
        x.unstep(4, 3);
        netAsked(x, 0);
        x.makeNet();
        x.rename(2, 3);
        netAsked(x, 0);
        DUE.is("makeNet() after rename()", x.makeNet(), 5);
        DUE.is("the questions keep the net", x.regionCount() > 0 && x.grow(1) > 0 && x.hasNet(), true);
    }

    private static void crowding() {
        RegionNets x = Systems.crowd();
        int least = 0;
        int lastPlace = 0;
        for (int i = 0; i < x.regionCount(); i++) {
            if (x.isLeast(i)) {
                least++;
                lastPlace = least == 30 ? x.region(i) : lastPlace;
            }
        }
        DUE.is("least regions of the crowd", least, 64);
        DUE.is("makeNet() of the crowd", x.makeNet(), 30);
        DUE.is("placeRegion(29) of the crowd", x.placeRegion(29), lastPlace);
        DUE.isThrown("placeRegion(30) of the crowd", INDEX, () -> x.placeRegion(30));
        DUE.is("markingCount() of the crowd", x.markingCount(), 6);
    }

    // ---- promises 27 to 30

    private static void playing() {
        RegionNets x = Systems.diamond();
        x.makeNet();
        DUE.is("marking() at first", x.marking(), 3);
        DUE.is("fire(2) without steps", x.fire(2), -1);
        DUE.is("fire(1)", x.fire(1), 10);
        DUE.is("marking() behind it", x.marking(), 10);
        DUE.is("fire(1) again", x.fire(1), -1);
        DUE.is("marking() after a refused one", x.marking(), 10);
        DUE.is("fire(0)", x.fire(0), 12);
        DUE.is("markingCount() does not hang on the present marking", x.markingCount(), 4);
        int[] markings = {3, 5, 10, 12};
        for (int i = 0; i < 4; i++) {
            DUE.is("markingAt(" + i + ")", x.markingAt(i), markings[i]);
        }
        for (int no : new int[] {-1, 4, 200, Integer.MIN_VALUE, Integer.MAX_VALUE}) {
            DUE.isThrown("markingAt(" + no + ")", INDEX, () -> x.markingAt(no));
        }
        DUE.is("marking() after looking", x.marking(), 12);
        DUE.is("makeNet() once more", x.makeNet(), 4);
        DUE.is("marking() as at first", x.marking(), 3);
        RegionNets none = Systems.swap();
        none.makeNet();
        DUE.is("marking() without places", none.marking(), 0);
        DUE.is("fire(0) without places", none.fire(0), 0);
        DUE.is("fire(1) without places and steps", none.fire(1), -1);
        DUE.is("markingCount() without places", none.markingCount(), 1);
        DUE.is("markingAt(0) without places", none.markingAt(0), 0);
        DUE.isThrown("markingAt(1) without places", INDEX, () -> none.markingAt(1));
        finding();
    }

    // The order in which markings are found: by the earlier marking, then by ascending labels.
    private static void finding() {
        RegionNets x = Systems.system(4, 0, 5, 1, 0, 2, 2, 1, 0, 3);
        x.makeNet();
        int[] found = {1, 4, 2, 8};
        DUE.is("markingCount() of a tree", x.markingCount(), 4);
        for (int i = 0; i < 4; i++) {
            DUE.is("markingAt(" + i + ") of a tree", x.markingAt(i), found[i]);
        }
        // A place to which a label produces must not be marked: the lone state's leads nowhere.
        RegionNets blocked = Systems.system(3, 1, 0, 0);
        blocked.makeNet();
        DUE.is("fire(0) into a marked place", blocked.fire(0), -1);
        DUE.is("markingCount() where nothing fires", blocked.markingCount(), 1);
    }

    // ---- promise 31

    private static void comparing() {
        faithful("ring", Systems.ring(), true);
        faithful("diamond", Systems.diamond(), true);
        faithful("swap: two states, one marking", Systems.swap(), false);
        faithful("one state", new RegionNets(), true);
        faithful("one state with a step", Systems.system(1, 0, 3, 0), true);
        faithful("unreached states that are like reached ones", Systems.system(4, 0, 0, 1, 2, 0, 1, 3, 0, 1), true);
        faithful("unreached states with steps of their own", Systems.system(4, 0, 0, 1, 2, 1, 3), true);
        faithful("a label fires where there is no step", Systems.system(2, 0, 0, 0, 0, 1, 1), false);
        faithful("a label of an unreached state fires", Systems.system(3, 0, 0, 1, 2, 1, 2), false);
        faithful("a label fires in the first state alone where there is no step", Systems.system(2, 0, 0, 1, 1, 1, 1), false);
        faithful("a ring of one label", Systems.ringOfOneLabel(5), false);
        faithful("a way of one label", Systems.system(3, 0, 0, 1, 1, 0, 2), false);
        RegionNets x = Systems.ring();
        x.makeNet();
        x.fire(0);
        DUE.is("isFaithful() does not hang on the present marking", x.isFaithful(), true);
        DUE.is("marking() after isFaithful()", x.marking(), 2);
    }

    private static void faithful(String name, RegionNets x, boolean want) {
        x.makeNet();
        DUE.is(name + ": isFaithful()", x.isFaithful(), want);
    }

    // ---- promise 32

    private static void digests() {
        RegionNets x = Systems.system(2, 0, 0, 1);
        long[] bare = {2, 1, -1, -1, -1, -1, -1, -1, -1, -1, -1, -1, -1, 2, 1, 2};
        DUE.is("digest() without a net", x.digest(), Systems.digestOf(bare));
        x.makeNet();
        DUE.is("digest() with a net", x.digest(), (Systems.digestOf(bare) * 31 + 2) * 31 + 1);
        x.fire(0);
        DUE.is("digest() after fire(0)", x.digest(), (Systems.digestOf(bare) * 31 + 2) * 31 + 2);
        x.addState();
        x.unstep(0, 0);
        x.step(2, 5, 0);
        DUE.is("digest() after changes", x.digest(), Systems.digestOf(3, -1, -1, -1, -1, -1, -1,
            -1, -1, -1, -1, -1, -1, -1, -1, -1, -1, -1, 0, 6, 1, 2, 3, 4, 5, 6));
    }
}
