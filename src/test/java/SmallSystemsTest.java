import java.util.Arrays;

/** Every system of few states and labels, asked everything: the answers must be PlainModel's. */
public final class SmallSystemsTest {
    private static final Due DUE = new Due("SmallSystemsTest");

    public static void main(String[] args) {
        every(1, 3);
        every(2, 3);
        every(3, 2);
        DUE.end();
    }

    private static void every(int states, int labels) {
        int[] ends = new int[states * labels];
        Arrays.fill(ends, -1);
        do {
            look(states, labels, ends);
        } while (DUE.wrong() < 20 && next(ends, states));
    }

    /** The next row of ends: as if one counted, with the digits -1 to states - 1. */
    private static boolean next(int[] ends, int states) {
        for (int i = 0; i < ends.length; i++) {
            ends[i]++;
            if (ends[i] < states) {
                return true;
            }
            ends[i] = -1;
        }
        return false;
    }

    private static void look(int states, int labels, int[] ends) {
        RegionNets x = Systems.system(states);
        PlainModel model = Systems.model(states);
        for (int i = 0; i < ends.length; i++) {
            if (ends[i] >= 0) {
                x.step(i / labels, i % labels, ends[i]);
                model.step(i / labels, i % labels, ends[i]);
            }
        }
        String name = states + " states, ends " + Arrays.toString(ends) + ": ";
        lookAtStates(name, x, model, labels);
        lookAtSets(name, x, model, labels);
        DUE.is(name + "lumps()", x.lumps(), model.lumps());
        DUE.is(name + "leaks()", x.leaks(), model.leaks());
        DUE.isDouble(name + "fidelity()", x.fidelity(), model.fidelity());
        DUE.is(name + "digest()", x.digest(), model.digest());
        lookAtNet(name, x, model, labels);
    }

    private static void lookAtStates(String name, RegionNets x, PlainModel model, int labels) {
        DUE.is(name + "reached()", x.reached(), model.reached());
        for (int s = 0; s < model.stateCount(); s++) {
            DUE.is(name + "enabled(" + s + ")", x.enabled(s), model.enabled(s));
            DUE.is(name + "distance(" + s + ")", x.distance(s), model.distance(s));
            for (int t = 0; t < model.stateCount(); t++) {
                DUE.is(name + "apart(" + s + ", " + t + ")", x.apart(s, t), model.apart(s, t));
            }
            for (int label = 0; label <= labels; label++) {
                DUE.is(name + "target(" + s + ", " + label + ")", x.target(s, label), model.target(s, label));
                DUE.is(name + "preventer(" + s + ", " + label + ")", x.preventer(s, label), model.preventer(s, label));
            }
        }
    }

    private static void lookAtSets(String name, RegionNets x, PlainModel model, int labels) {
        for (int set = 0; set < 1 << model.stateCount(); set++) {
            DUE.is(name + "isRegion(" + set + ")", x.isRegion(set), model.isRegion(set));
            DUE.is(name + "grow(" + set + ")", x.grow(set), model.grow(set));
            for (int label = 0; label <= labels; label++) {
                DUE.is(name + "crossing(" + set + ", " + label + ")", x.crossing(set, label), model.crossing(set, label));
            }
        }
        DUE.is(name + "regionCount()", x.regionCount(), model.regionCount());
        for (int i = 0; i < model.regionCount(); i++) {
            DUE.is(name + "region(" + i + ")", x.region(i), model.region(i));
            DUE.is(name + "isLeast(" + i + ")", x.isLeast(i), model.isLeast(i));
        }
    }

    private static void lookAtNet(String name, RegionNets x, PlainModel model, int labels) {
        DUE.is(name + "makeNet()", x.makeNet(), model.makeNet());
        for (int place = 0; place < model.makeNet(); place++) {
            DUE.is(name + "placeRegion(" + place + ")", x.placeRegion(place), model.placeRegion(place));
        }
        DUE.is(name + "markingCount()", x.markingCount(), model.markingCount());
        for (int i = 0; i < model.markingCount(); i++) {
            DUE.is(name + "markingAt(" + i + ")", x.markingAt(i), model.markingAt(i));
        }
        DUE.is(name + "isFaithful()", x.isFaithful(), model.isFaithful());
        for (int label = 0; label <= labels; label++) {
            DUE.is(name + "consumed(" + label + ")", x.consumed(label), model.consumed(label));
            DUE.is(name + "produced(" + label + ")", x.produced(label), model.produced(label));
            DUE.is(name + "fire(" + label + ")", x.fire(label), model.fire(label));
            DUE.is(name + "marking() behind fire(" + label + ")", x.marking(), model.marking());
        }
        DUE.is(name + "digest() with a net", x.digest(), model.digest());
    }
}
