/** The sentences on systems of states that name a boundary (promises 1 to 10), a test for each. */
public final class SystemBoundariesTest {
    private static final Class<IndexOutOfBoundsException> INDEX = IndexOutOfBoundsException.class;
    private static final Class<IllegalStateException> STATE = IllegalStateException.class;
    private static final Due DUE = new Due("SystemBoundariesTest");

    public static void main(String[] args) {
        limits();
        wordsOnSteps();
        newObjects();
        addState();
        step();
        unstep();
        rename();
        looks();
        ways();
        DUE.end();
    }

    // ---- the limits

    private static void limits() {
        DUE.sentence("An object is used for at most 512 calls after it has been made",
            SystemBoundariesTest::lastOf512Calls);
        DUE.sentence("at most 512 calls",
            SystemBoundariesTest::lastOf512DearCalls);
        DUE.sentence("A system has at most 12 states", SystemBoundariesTest::twelveStates);
        DUE.sentence("numbered from 0 in the order of their creation",
            SystemBoundariesTest::numbersOfStates);
        DUE.sentence("the state 0 is there from the beginning on, and is the first one",
            SystemBoundariesTest::firstState);
        DUE.sentence("There are 6 labels, 0 to 5.", SystemBoundariesTest::sixLabels);
        DUE.sentence("Throws `IndexOutOfBoundsException` if there is no such label",
            SystemBoundariesTest::noOtherLabels);
    }

    private static void lastOf512Calls() {
        RegionNets x = Systems.ring();
        int calls = 5;
        DUE.is("makeNet()", x.makeNet(), 3);
        calls++;
        int at = 0;
        while (calls < 511) {
            int label = at;
            at = (at + 1) % 3;
            DUE.is("fire(" + label + ") as call " + calls, x.fire(label), 1 << at);
            calls++;
        }
        DUE.is("marking() as call 512", x.marking(), 1 << at);
    }

    private static void lastOf512DearCalls() {
        RegionNets x = Systems.system(12);
        for (int calls = 11; calls + 5 <= 511; calls += 5) {
            x.step(calls % 12, 0, 11 - calls % 12);
            x.lumps();
            x.leaks();
            x.makeNet();
            x.unstep(calls % 12, 0);
        }
        DUE.is("regionCount() as call 512", x.regionCount(), 4094);
    }

    private static void twelveStates() {
        RegionNets x = Systems.system(11);
        DUE.is("addState() with 11 states", x.addState(), 11);
        DUE.is("stateCount()", x.stateCount(), 12);
        DUE.isThrown("addState() with 12 states", STATE, x::addState);
        DUE.isThrown("addState() once more", STATE, x::addState);
        DUE.is("stateCount() then", x.stateCount(), 12);
        DUE.is("the last state is one: step(11, 5, 11)", x.step(11, 5, 11), -1);
        DUE.is("target(11, 5)", x.target(11, 5), 11);
    }

    private static void numbersOfStates() {
        RegionNets x = new RegionNets();
        for (int s = 1; s < 12; s++) {
            DUE.is("addState() with " + s + " states", x.addState(), s);
        }
    }

    private static void firstState() {
        RegionNets x = new RegionNets();
        DUE.is("enabled(0) of a new object", x.enabled(0), 0);
        DUE.is("distance(0) of a new object", x.distance(0), 0);
        DUE.is("step(0, 0, 0) of a new object", x.step(0, 0, 0), -1);
        DUE.is("addState() is not the state 0", x.addState(), 1);
        x.makeNet();
        DUE.is("marking(): the place of the state 0", x.marking(), 1);
    }

    private static void sixLabels() {
        for (int label : new int[] {0, 5}) {
            RegionNets x = Systems.system(2);
            DUE.is("step(0, " + label + ", 1)", x.step(0, label, 1), -1);
            DUE.is("target(0, " + label + ")", x.target(0, label), 1);
            DUE.is("enabled(0)", x.enabled(0), 1 << label);
            DUE.is("crossing({0}, " + label + ")", x.crossing(1, label), 2);
            DUE.is("preventer(1, " + label + ")", x.preventer(1, label), 0);
            x.makeNet();
            DUE.is("consumed(" + label + ")", x.consumed(label), 1);
            DUE.is("produced(" + label + ")", x.produced(label), 2);
            DUE.is("fire(" + label + ")", x.fire(label), 2);
            DUE.is("rename(" + label + ", " + (5 - label) + ")", x.rename(label, 5 - label), 1);
            DUE.is("rename(" + (5 - label) + ", " + label + ")", x.rename(5 - label, label), 1);
            DUE.is("unstep(0, " + label + ")", x.unstep(0, label), true);
        }
    }

    private static void noOtherLabels() {
        for (int no : Systems.NO_LABELS) {
            RegionNets x = Systems.ring();
            x.makeNet();
            DUE.isThrown("step(0, " + no + ", 0)", INDEX, () -> x.step(0, no, 0));
            DUE.isThrown("unstep(0, " + no + ")", INDEX, () -> x.unstep(0, no));
            DUE.isThrown("rename(" + no + ", 0)", INDEX, () -> x.rename(no, 0));
            DUE.isThrown("rename(0, " + no + ")", INDEX, () -> x.rename(0, no));
            DUE.isThrown("rename(" + no + ", " + no + ")", INDEX, () -> x.rename(no, no));
            DUE.isThrown("target(0, " + no + ")", INDEX, () -> x.target(0, no));
            DUE.isThrown("crossing({0}, " + no + ")", INDEX, () -> x.crossing(1, no));
            DUE.isThrown("crossing({}, " + no + ")", INDEX, () -> x.crossing(0, no));
            DUE.isThrown("preventer(0, " + no + ")", INDEX, () -> x.preventer(0, no));
            DUE.isThrown("consumed(" + no + ")", INDEX, () -> x.consumed(no));
            DUE.isThrown("produced(" + no + ")", INDEX, () -> x.produced(no));
            DUE.isThrown("fire(" + no + ")", INDEX, () -> x.fire(no));
        }
    }

    // ---- what the description says of steps and sets

    private static void wordsOnSteps() {
        DUE.sentence("A step leads from a state to a state (perhaps the same one) with a label",
            SystemBoundariesTest::loops);
        DUE.sentence("from a state there is at most one step with a label",
            SystemBoundariesTest::oneStepWithALabel);
        DUE.sentence("Sets of states are told as the sum of the powers 2^k of their numbers k",
            SystemBoundariesTest::setsOfStates);
        DUE.sentence("sets of labels in the same way", SystemBoundariesTest::setsOfLabels);
        DUE.sentence("A state is reached if there are steps, none or more",
            SystemBoundariesTest::reachedByNone);
        DUE.sentence("that lead from the state 0 to it", SystemBoundariesTest::reachedForwards);
    }

    private static void loops() {
        RegionNets x = Systems.system(12, 0, 0, 0, 11, 5, 11);
        DUE.is("target(0, 0)", x.target(0, 0), 0);
        DUE.is("target(11, 5)", x.target(11, 5), 11);
        DUE.is("enabled(11)", x.enabled(11), 32);
        DUE.is("crossing({0}, 0)", x.crossing(1, 0), 0);
        DUE.is("crossing({1}, 0)", x.crossing(2, 0), 0);
        DUE.is("distance(0)", x.distance(0), 0);
        DUE.is("distance(11)", x.distance(11), -1);
        x.makeNet();
        DUE.is("fire(0): nothing moves", x.fire(0), x.marking());
        DUE.is("unstep(0, 0)", x.unstep(0, 0), true);
    }

    private static void oneStepWithALabel() {
        RegionNets x = Systems.system(3, 0, 0, 1, 0, 0, 2);
        DUE.is("target(0, 0)", x.target(0, 0), 2);
        DUE.is("reached() without the former step", x.reached(), 5);
        DUE.is("crossing({1}, 0) without the former step", x.crossing(2, 0), 0);
        x.step(0, 1, 1);
        x.step(1, 0, 2);
        DUE.is("a step with another label stays beside it", x.target(0, 0), 2);
        DUE.is("a step from another state stays beside it", x.target(0, 1), 1);
    }

    private static void setsOfStates() {
        RegionNets x = Systems.system(12, 0, 3, 11);
        DUE.is("reached() of {0, 11}", x.reached(), 2049);
        DUE.is("crossing({11}, 3)", x.crossing(2048, 3), 1);
        DUE.is("crossing(all, 3)", x.crossing(4095, 3), 0);
        DUE.is("region(4093): all but the state 0", x.region(4093), 4094);
        DUE.is("reached() of a new object", new RegionNets().reached(), 1);
    }

    private static void setsOfLabels() {
        RegionNets x = Systems.system(12);
        DUE.is("enabled(11): none", x.enabled(11), 0);
        for (int label = 5; label >= 0; label--) {
            x.step(11, label, 0);
            DUE.is("enabled(11): from " + label + " on", x.enabled(11), 64 - (1 << label));
        }
        x.unstep(11, 0);
        DUE.is("enabled(11): all but 0", x.enabled(11), 62);
        DUE.is("enabled(10): none", x.enabled(10), 0);
    }

    private static void reachedByNone() {
        RegionNets x = Systems.system(12);
        DUE.is("reached() without steps", x.reached(), 1);
        DUE.is("distance(0) without steps", x.distance(0), 0);
        x.step(1, 0, 0);
        DUE.is("reached() with a step to the state 0", x.reached(), 1);
        x.step(0, 1, 0);
        DUE.is("distance(0) with a loop", x.distance(0), 0);
        x.step(0, 2, 1);
        DUE.is("distance(0) in a ring", x.distance(0), 0);
    }

    private static void reachedForwards() {
        RegionNets x = Systems.system(5, 1, 0, 0, 2, 1, 1, 3, 0, 4, 0, 5, 4);
        DUE.is("reached() without the states that lead to others", x.reached(), 17);
        for (int s : new int[] {1, 2, 3}) {
            DUE.is("distance(" + s + ")", x.distance(s), -1);
        }
        x.step(4, 5, 2);
        DUE.is("reached() with a way", x.reached(), 23);
        x.unstep(0, 5);
        DUE.is("reached() when the way is broken", x.reached(), 1);
    }

    // ---- promises 1 and 2

    private static void newObjects() {
        DUE.sentence("Creates a system with the state 0 alone", SystemBoundariesTest::oneStateAlone);
        DUE.sentence("without steps", SystemBoundariesTest::newWithoutSteps);
        DUE.sentence("no net was made", SystemBoundariesTest::newWithoutNet);
    }

    private static void oneStateAlone() {
        RegionNets x = new RegionNets();
        Systems.system(12, 0, 0, 11).makeNet();
        DUE.is("stateCount()", x.stateCount(), 1);
        DUE.is("reached()", x.reached(), 1);
        DUE.is("regionCount()", x.regionCount(), 0);
        DUE.is("lumps()", x.lumps(), 0);
        for (int no : Systems.noStates(1)) {
            DUE.isThrown("enabled(" + no + ")", INDEX, () -> x.enabled(no));
        }
    }

    private static void newWithoutSteps() {
        RegionNets x = new RegionNets();
        for (int label = 0; label < 6; label++) {
            DUE.is("target(0, " + label + ")", x.target(0, label), -1);
            DUE.is("unstep(0, " + label + ")", x.unstep(0, label), false);
            DUE.is("rename(" + label + ", 0)", x.rename(label, 0), 0);
        }
        DUE.is("digest()", new RegionNets().digest(), Systems.digestOf(1, -1, -1, -1, -1, -1, -1, 0));
    }

    private static void newWithoutNet() {
        RegionNets x = new RegionNets();
        DUE.is("hasNet()", x.hasNet(), false);
        DUE.isThrown("marking()", STATE, x::marking);
        DUE.isThrown("markingCount()", STATE, x::markingCount);
        DUE.isThrown("isFaithful()", STATE, x::isFaithful);
    }

    private static void addState() {
        DUE.sentence("Adds a state.", SystemBoundariesTest::addedState);
        DUE.sentence("Returns its number.", () -> {
            DUE.is("addState() with 1 state", new RegionNets().addState(), 1);
            DUE.is("addState() with 11 states", Systems.system(11).addState(), 11);
        });
        DUE.sentence("Throws `IllegalStateException` if there are 12 states", () -> {
            RegionNets x = Systems.system(12, 0, 0, 11);
            DUE.isThrown("addState()", STATE, x::addState);
            DUE.is("stateCount()", x.stateCount(), 12);
            DUE.is("target(0, 0)", x.target(0, 0), 11);
        });
    }

    private static void addedState() {
        RegionNets x = Systems.system(2, 0, 0, 1, 1, 0, 1);
        DUE.is("regionCount() before", x.regionCount(), 0);
        x.addState();
        DUE.is("stateCount()", x.stateCount(), 3);
        DUE.is("enabled(2)", x.enabled(2), 0);
        DUE.is("distance(2)", x.distance(2), -1);
        DUE.is("target(0, 0) as before", x.target(0, 0), 1);
        DUE.is("regionCount() with the new state", x.regionCount(), 2);
        DUE.is("region(0)", x.region(0), 3);
        DUE.is("region(1)", x.region(1), 4);
        DUE.is("grow({2})", x.grow(4), 4);
        DUE.is("isRegion({0, 1}), the former set of all", x.isRegion(3), true);
    }

    // ---- promises 3 and 4

    private static void step() {
        DUE.sentence("Makes a step", SystemBoundariesTest::madeStep);
        DUE.sentence("in place of the one with this label from this state, if there is one",
            SystemBoundariesTest::stepInPlace);
        DUE.sentence("Returns the state where the one before ended; -1 if there was none.",
            SystemBoundariesTest::endedBefore);
        DUE.sentence("step: Throws `IndexOutOfBoundsException` if there is no such state or label",
            SystemBoundariesTest::stepRefused);
    }

    private static void madeStep() {
        RegionNets x = Systems.system(12);
        x.step(11, 5, 0);
        x.step(0, 0, 11);
        DUE.is("target(11, 5)", x.target(11, 5), 0);
        DUE.is("target(0, 0)", x.target(0, 0), 11);
        DUE.is("enabled(11)", x.enabled(11), 32);
        DUE.is("enabled(0)", x.enabled(0), 1);
        DUE.is("crossing({11}, 5)", x.crossing(2048, 5), 2);
        DUE.is("crossing({0}, 5)", x.crossing(1, 5), 1);
        DUE.is("distance(11)", x.distance(11), 1);
        DUE.is("digest(): with just these steps", x.digest(), digestOfTwoSteps());
    }

    private static long digestOfTwoSteps() {
        long d = Systems.digestOf(12);
        for (int at = 0; at < 72; at++) {
            d = d * 31 + (at == 0 ? 11 : at == 71 ? 0 : -1);
        }
        d = d * 31 + 4094;
        for (int set = 1; set < 4095; set++) {
            d = d * 31 + set;
        }
        return d;
    }

    private static void stepInPlace() {
        RegionNets x = Systems.system(4, 0, 0, 1, 1, 0, 2);
        DUE.is("regionCount() before", x.regionCount(), 2);
        DUE.is("isRegion({0, 2}) before", x.isRegion(5), false);
        x.step(1, 0, 3);
        x.step(0, 0, 2);
        DUE.is("target(0, 0)", x.target(0, 0), 2);
        DUE.is("target(1, 0)", x.target(1, 0), 3);
        DUE.is("enabled(0)", x.enabled(0), 1);
        DUE.is("isRegion({0, 1})", x.isRegion(3), true);
        DUE.is("isRegion({0, 2})", x.isRegion(5), true);
        DUE.is("isRegion({1, 2})", x.isRegion(6), false);
        DUE.is("rename(0, 1): how many steps there are", x.rename(0, 1), 2);
    }

    private static void endedBefore() {
        RegionNets x = Systems.system(12);
        DUE.is("step(3, 2, 0) the first time", x.step(3, 2, 0), -1);
        DUE.is("step(3, 2, 11): it ended at 0", x.step(3, 2, 11), 0);
        DUE.is("step(3, 2, 3): it ended at 11", x.step(3, 2, 3), 11);
        DUE.is("step(3, 2, 3) as it is", x.step(3, 2, 3), 3);
        DUE.is("step(3, 3, 1): another label", x.step(3, 3, 1), -1);
        DUE.is("step(4, 2, 1): another state", x.step(4, 2, 1), -1);
        x.unstep(3, 2);
        DUE.is("step(3, 2, 1) behind unstep", x.step(3, 2, 1), -1);
        x.rename(2, 4);
        DUE.is("step(3, 2, 1) behind rename", x.step(3, 2, 1), -1);
        DUE.is("step(3, 4, 2) behind rename", x.step(3, 4, 2), 1);
    }

    private static void stepRefused() {
        for (int states : new int[] {1, 4, 12}) {
            for (int no : Systems.noStates(states)) {
                RegionNets x = Systems.system(states);
                DUE.isThrown("step(" + no + ", 0, 0)", INDEX, () -> x.step(no, 0, 0));
                DUE.isThrown("step(0, 0, " + no + ")", INDEX, () -> x.step(0, 0, no));
                DUE.isThrown("step(" + no + ", 6, 0)", INDEX, () -> x.step(no, 6, 0));
                DUE.is("enabled(0) then", x.enabled(0), 0);
            }
        }
    }

    private static void unstep() {
        DUE.sentence("Removes a step.", SystemBoundariesTest::removedStep);
        DUE.sentence("Returns whether there was one.", SystemBoundariesTest::wasThereOne);
        DUE.sentence("unstep: Throws `IndexOutOfBoundsException` if there is no such state or label",
            SystemBoundariesTest::unstepRefused);
    }

    private static void removedStep() {
        RegionNets x = Systems.system(12, 11, 5, 0, 11, 4, 0, 10, 5, 0);
        x.unstep(11, 5);
        DUE.is("target(11, 5)", x.target(11, 5), -1);
        DUE.is("enabled(11): the other label stays", x.enabled(11), 16);
        DUE.is("target(10, 5): the other state's step stays", x.target(10, 5), 0);
        DUE.is("crossing({10}, 5)", x.crossing(1024, 5), 2);
        x.unstep(10, 5);
        DUE.is("crossing({10}, 5) without steps", x.crossing(1024, 5), 0);
        DUE.is("crossing({0}, 5) without steps", x.crossing(1, 5), 0);
    }

    private static void wasThereOne() {
        RegionNets x = Systems.system(12, 0, 0, 0, 11, 5, 11);
        DUE.is("unstep(0, 0): it ended at 0", x.unstep(0, 0), true);
        DUE.is("unstep(0, 0) again", x.unstep(0, 0), false);
        DUE.is("unstep(11, 5)", x.unstep(11, 5), true);
        DUE.is("unstep(11, 5) again", x.unstep(11, 5), false);
        DUE.is("unstep(3, 3): never made", x.unstep(3, 3), false);
    }

    private static void unstepRefused() {
        for (int states : new int[] {1, 4, 12}) {
            for (int no : Systems.noStates(states)) {
                RegionNets x = Systems.system(states, 0, 0, 0);
                DUE.isThrown("unstep(" + no + ", 0)", INDEX, () -> x.unstep(no, 0));
                DUE.isThrown("unstep(" + no + ", 6)", INDEX, () -> x.unstep(no, 6));
                DUE.is("enabled(0) then", x.enabled(0), 1);
            }
        }
    }

    // ---- promise 5

    private static void rename() {
        DUE.sentence("Gives all steps with a label another one.", SystemBoundariesTest::renamedSteps);
        DUE.sentence("Returns how many steps had the label.", SystemBoundariesTest::renamedCount);
        DUE.sentence("Throws `IllegalStateException` if from some state there are steps with both labels",
            SystemBoundariesTest::renameOfBoth);
        DUE.sentence("and these are two labels", SystemBoundariesTest::renameToItself);
    }

    private static void renamedSteps() {
        RegionNets x = Systems.system(12, 0, 0, 0, 5, 0, 6, 11, 0, 3, 10, 5, 2, 0, 1, 4);
        DUE.is("rename(0, 5)", x.rename(0, 5), 3);
        DUE.is("enabled(0)", x.enabled(0), 34);
        DUE.is("enabled(5)", x.enabled(5), 32);
        DUE.is("enabled(11)", x.enabled(11), 32);
        DUE.is("target(0, 5)", x.target(0, 5), 0);
        DUE.is("target(5, 5)", x.target(5, 5), 6);
        DUE.is("target(11, 5)", x.target(11, 5), 3);
        DUE.is("target(10, 5): it had the other label before", x.target(10, 5), 2);
        DUE.is("crossing({11}, 0), where a step began: none has the label", x.crossing(2048, 0), 0);
        DUE.is("crossing({3}, 0), where a step ended: none has the label", x.crossing(8, 0), 0);
        DUE.is("crossing({6}, 0), where a step ended: none has the label", x.crossing(64, 0), 0);
        DUE.is("crossing({5, 10, 11}, 5): the loop at 0 stays outside", x.crossing(3104, 5), 3);
        DUE.is("crossing({5, 6}, 5)", x.crossing(96, 5), 0);
        DUE.is("rename(5, 0): those are all of them now", x.rename(5, 0), 4);
        DUE.is("enabled(10)", x.enabled(10), 1);
    }

    private static void renamedCount() {
        RegionNets x = Systems.system(12);
        DUE.is("rename(0, 1): none", x.rename(0, 1), 0);
        x.step(11, 0, 0);
        DUE.is("rename(0, 1): one", x.rename(0, 1), 1);
        DUE.is("rename(0, 1): none any more", x.rename(0, 1), 0);
        for (int s = 0; s < 12; s++) {
            x.step(s, 5, 0);
        }
        DUE.is("rename(5, 0): all twelve, though one has the label 1", x.rename(5, 0), 12);
        DUE.is("rename(5, 1): none, and those of the label 1 are not counted", x.rename(5, 1), 0);
    }

    private static void renameOfBoth() {
        RegionNets x = Systems.system(12, 0, 0, 1, 11, 0, 2, 10, 3, 2, 11, 3, 2);
        DUE.isThrown("rename(0, 3): both lead from 11 alone", STATE, () -> x.rename(0, 3));
        DUE.isThrown("rename(3, 0)", STATE, () -> x.rename(3, 0));
        DUE.is("target(0, 0) then", x.target(0, 0), 1);
        DUE.is("target(0, 3) then", x.target(0, 3), -1);
        x.unstep(11, 3);
        DUE.is("rename(0, 3): from different states", x.rename(0, 3), 2);
        RegionNets y = Systems.system(2, 0, 0, 1, 0, 1, 1);
        DUE.isThrown("rename(0, 1): both lead from 0 to 1", STATE, () -> y.rename(0, 1));
        DUE.is("rename(0, 2): no steps with the other one", y.rename(0, 2), 1);
    }

    private static void renameToItself() {
        RegionNets x = Systems.system(3, 0, 5, 1, 1, 5, 2, 2, 5, 2);
        DUE.is("rename(5, 5)", x.rename(5, 5), 3);
        DUE.is("target(0, 5)", x.target(0, 5), 1);
        DUE.is("target(2, 5)", x.target(2, 5), 2);
        DUE.is("crossing({2}, 5)", x.crossing(4, 5), 3);
        DUE.is("rename(0, 0) without steps", x.rename(0, 0), 0);
    }

    // ---- promises 6 to 8

    private static void looks() {
        DUE.sentence("Returns the number of states.", () -> {
            RegionNets x = new RegionNets();
            for (int states = 1; states <= 12; states++) {
                DUE.is("stateCount()", x.stateCount(), states);
                if (states < 12) {
                    x.addState();
                }
            }
        });
        DUE.sentence("Returns the state where the step with this label from there ends; -1 if there is none.",
            SystemBoundariesTest::targets);
        DUE.sentence("Returns the set of the labels with which there are steps from there.",
            SystemBoundariesTest::enabledLabels);
        DUE.sentence("Throws `IndexOutOfBoundsException` if there is no such state",
            SystemBoundariesTest::looksRefused);
    }

    private static void targets() {
        RegionNets x = Systems.system(12, 0, 0, 0, 0, 5, 11, 11, 0, 0);
        DUE.is("target(0, 0)", x.target(0, 0), 0);
        DUE.is("target(0, 5)", x.target(0, 5), 11);
        DUE.is("target(11, 0)", x.target(11, 0), 0);
        DUE.is("target(11, 5): from another state alone", x.target(11, 5), -1);
        DUE.is("target(0, 1): never made", x.target(0, 1), -1);
        x.unstep(0, 0);
        DUE.is("target(0, 0) behind unstep", x.target(0, 0), -1);
        x.rename(5, 4);
        DUE.is("target(0, 5) behind rename", x.target(0, 5), -1);
    }

    private static void enabledLabels() {
        RegionNets x = Systems.system(3, 1, 0, 0, 1, 5, 1, 2, 1, 0);
        DUE.is("enabled(1)", x.enabled(1), 33);
        DUE.is("enabled(2)", x.enabled(2), 2);
        DUE.is("enabled(0): steps end there alone", x.enabled(0), 0);
        x.unstep(1, 5);
        DUE.is("enabled(1) behind unstep", x.enabled(1), 1);
        x.rename(0, 3);
        DUE.is("enabled(1) behind rename", x.enabled(1), 8);
    }

    private static void looksRefused() {
        for (int states : new int[] {1, 4, 12}) {
            for (int no : Systems.noStates(states)) {
                RegionNets x = Systems.system(states, 0, 0, 0);
                DUE.isThrown("target(" + no + ", 0)", INDEX, () -> x.target(no, 0));
                DUE.isThrown("enabled(" + no + ")", INDEX, () -> x.enabled(no));
                DUE.isThrown("distance(" + no + ")", INDEX, () -> x.distance(no));
                DUE.isThrown("apart(" + no + ", 0)", INDEX, () -> x.apart(no, 0));
                DUE.isThrown("apart(0, " + no + ")", INDEX, () -> x.apart(0, no));
                DUE.isThrown("apart(" + no + ", " + no + ")", INDEX, () -> x.apart(no, no));
                DUE.isThrown("preventer(" + no + ", 0)", INDEX, () -> x.preventer(no, 0));
                DUE.isThrown("preventer(" + no + ", 6)", INDEX, () -> x.preventer(no, 6));
            }
        }
    }

    // ---- promises 9 and 10

    private static void ways() {
        DUE.sentence("Returns the set of the states that are reached.", SystemBoundariesTest::reachedSets);
        DUE.sentence("Returns the least number of steps that lead from the state 0 to it",
            SystemBoundariesTest::leastNumbers);
        DUE.sentence("-1 if it is not reached", SystemBoundariesTest::notReached);
    }

    // A way downwards through the numbers: each round of a search finds one state.
    private static RegionNets longWay() {
        RegionNets x = Systems.system(12, 0, 0, 11);
        for (int s = 11; s > 1; s--) {
            x.step(s, s % 6, s - 1);
        }
        return x;
    }

    private static void reachedSets() {
        DUE.is("reached() of one state", new RegionNets().reached(), 1);
        DUE.is("reached() of 12 states without steps", Systems.system(12).reached(), 1);
        RegionNets x = longWay();
        DUE.is("reached() of a way through all of them", x.reached(), 4095);
        x.unstep(2, 2);
        DUE.is("reached() without its last step", x.reached(), 4093);
        x.unstep(0, 0);
        DUE.is("reached() without its first step", x.reached(), 1);
        RegionNets star = Systems.system(7, 0, 0, 1, 0, 1, 2, 0, 2, 3, 0, 3, 4, 0, 4, 5, 0, 5, 6);
        DUE.is("reached() by each of the labels", star.reached(), 127);
    }

    private static void leastNumbers() {
        RegionNets x = longWay();
        for (int s = 1; s < 12; s++) {
            DUE.is("distance(" + s + ") of a way", x.distance(s), 12 - s);
        }
        x.step(0, 5, 1);
        DUE.is("distance(1) with a shorter way by a greater label", x.distance(1), 1);
        DUE.is("distance(2) as before", x.distance(2), 10);
        x.step(1, 3, 3);
        DUE.is("distance(3): the shorter one of two", x.distance(3), 2);
        DUE.is("distance(2) behind it", x.distance(2), 3);
        x.unstep(0, 5);
        DUE.is("distance(2) by the long way again", x.distance(2), 10);
        DUE.is("distance(3) by the long way again", x.distance(3), 9);
    }

    private static void notReached() {
        RegionNets x = Systems.system(12, 11, 0, 0, 10, 1, 11, 11, 1, 10, 9, 2, 9);
        for (int s = 1; s < 12; s++) {
            DUE.is("distance(" + s + ")", x.distance(s), -1);
        }
        x.step(0, 0, 11);
        DUE.is("distance(11) with a step there", x.distance(11), 1);
        DUE.is("distance(10) with a step there", x.distance(10), 2);
        DUE.is("distance(9) with its own loop alone", x.distance(9), -1);
    }
}
