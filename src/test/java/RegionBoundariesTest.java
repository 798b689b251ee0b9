/** The sentences on regions that name a boundary (promises 11 to 21), a test for each. */
public final class RegionBoundariesTest {
    private static final Class<IndexOutOfBoundsException> INDEX = IndexOutOfBoundsException.class;
    private static final Class<IllegalArgumentException> ARGUMENT = IllegalArgumentException.class;
    private static final Due DUE = new Due("RegionBoundariesTest");

    private static final int NOT = 0;
    private static final int IN = 1;
    private static final int OUT = 2;
    private static final int MIXED = 3;

    public static void main(String[] args) {
        ways();
        regions();
        lists();
        growing();
        telling();
        preventing();
        counting();
        fidelity();
        DUE.end();
    }

    /** Two steps with the label 5, from 0 to 1 and from 2 to 3; the states 4 and 5 lie beside. */
    private static RegionNets twoSteps() {
        return Systems.system(6, 0, 5, 1, 2, 5, 3);
    }

    // ---- promise 11

    private static void ways() {
        DUE.sentence("0 NOT: no step with the label leads into the set or out of it", () -> {
            RegionNets x = twoSteps();
            for (int set : new int[] {0, 1, 2, 10, 31, 63}) {
                DUE.is("crossing(" + set + ", 0) without steps", x.crossing(set, 0), NOT);
            }
        });
        DUE.sentence("each of them has both ends in it, or none", () -> {
            RegionNets x = twoSteps();
            for (int set : new int[] {0, 16, 32, 48, 3, 12, 15, 19, 60, 63}) {
                DUE.is("crossing(" + set + ", 5)", x.crossing(set, 5), NOT);
            }
        });
        DUE.sentence("1 IN: there are steps with the label", RegionBoundariesTest::inWithSteps);
        DUE.sentence("each of them begins outside of the set and ends in it", () -> {
            RegionNets x = twoSteps();
            for (int set : new int[] {10, 26, 58}) {
                DUE.is("crossing(" + set + ", 5)", x.crossing(set, 5), IN);
            }
        });
        DUE.sentence("2 OUT: there are steps with the label", RegionBoundariesTest::outWithSteps);
        DUE.sentence("each of them begins in the set and ends outside of it", () -> {
            RegionNets x = twoSteps();
            for (int set : new int[] {5, 21, 53}) {
                DUE.is("crossing(" + set + ", 5)", x.crossing(set, 5), OUT);
            }
        });
        DUE.sentence("3 MIXED: otherwise.", RegionBoundariesTest::otherwise);
        DUE.sentence("Throws `IllegalArgumentException` if set contains something that is no state",
            RegionBoundariesTest::noSets);
    }

    private static void inWithSteps() {
        RegionNets x = Systems.system(12, 11, 0, 10);
        DUE.is("crossing({10}, 0): one step", x.crossing(1024, 0), IN);
        DUE.is("crossing({10}, 1): no steps", x.crossing(1024, 1), NOT);
        x.unstep(11, 0);
        DUE.is("crossing({10}, 0): no steps any more", x.crossing(1024, 0), NOT);
        for (int s = 0; s < 11; s++) {
            x.step(s, 3, 11);
        }
        DUE.is("crossing({11}, 3): eleven steps", x.crossing(2048, 3), IN);
        x.step(11, 3, 11);
        DUE.is("crossing({11}, 3): a loop in it too", x.crossing(2048, 3), MIXED);
        x.step(11, 3, 0);
        DUE.is("crossing({11}, 3): one leads out too", x.crossing(2048, 3), MIXED);
    }

    private static void outWithSteps() {
        RegionNets x = Systems.system(12, 11, 0, 10);
        DUE.is("crossing({11}, 0): one step", x.crossing(2048, 0), OUT);
        DUE.is("crossing({11}, 1): no steps", x.crossing(2048, 1), NOT);
        for (int s = 0; s < 11; s++) {
            x.step(s, 3, 11);
        }
        DUE.is("crossing({0 to 10}, 3): eleven steps", x.crossing(2047, 3), OUT);
        DUE.is("crossing({0 to 9}, 3): one begins beside it", x.crossing(1023, 3), MIXED);
        x.step(11, 3, 11);
        DUE.is("crossing({0 to 10}, 3): a loop beside it", x.crossing(2047, 3), MIXED);
    }

    private static void otherwise() {
        RegionNets x = twoSteps();
        DUE.is("crossing({0}, 5): one out, one beside", x.crossing(1, 5), MIXED);
        DUE.is("crossing({1}, 5): one in, one beside", x.crossing(2, 5), MIXED);
        DUE.is("crossing({0, 3}, 5): one out, one in", x.crossing(9, 5), MIXED);
        DUE.is("crossing({0, 1, 2}, 5): one inside, one out", x.crossing(7, 5), MIXED);
        DUE.is("crossing({0, 1, 3}, 5): one inside, one in", x.crossing(11, 5), MIXED);
        RegionNets ring = Systems.ringOfOneLabel(12);
        DUE.is("crossing({0 to 5}, 0) of a ring: in at one end, out at the other", ring.crossing(63, 0), MIXED);
        DUE.is("crossing({6 to 11}, 0) of a ring", ring.crossing(4032, 0), MIXED);
    }

    private static void noSets() {
        for (int states : new int[] {1, 4, 11, 12}) {
            RegionNets x = Systems.system(states, 0, 0, 0);
            int all = (1 << states) - 1;
            DUE.is("crossing(all of " + states + ", 0)", x.crossing(all, 0), NOT);
            DUE.is("grow(all of " + states + ")", x.grow(all), all);
            DUE.is("isRegion(all of " + states + ")", x.isRegion(all), false);
            for (int no : Systems.noSets(states)) {
                DUE.isThrown("crossing(" + no + ", 0)", ARGUMENT, () -> x.crossing(no, 0));
                DUE.isThrown("isRegion(" + no + ")", ARGUMENT, () -> x.isRegion(no));
                DUE.isThrown("grow(" + no + ")", ARGUMENT, () -> x.grow(no));
            }
        }
    }

    // ---- promise 12

    private static void regions() {
        DUE.sentence("A region is a set of states, neither empty", () -> {
            DUE.is("isRegion({}) of one state", new RegionNets().isRegion(0), false);
            DUE.is("isRegion({}) of 12 states", Systems.system(12).isRegion(0), false);
            DUE.is("isRegion({0}) of 12 states", Systems.system(12).isRegion(1), true);
        });
        DUE.sentence("nor that of all states", RegionBoundariesTest::notAllStates);
        DUE.sentence("that no label crosses MIXED", RegionBoundariesTest::notMixed);
    }

    private static void notAllStates() {
        RegionNets x = new RegionNets();
        for (int states = 1; states <= 12; states++) {
            int all = (1 << states) - 1;
            DUE.is("isRegion(" + all + ") of " + states + " states", x.isRegion(all), false);
            if (states > 1) {
                DUE.is("isRegion(" + (all - 1) + ")", x.isRegion(all - 1), true);
                DUE.is("isRegion(" + all / 2 + ")", x.isRegion(all / 2), true);
            }
            if (states < 12) {
                x.addState();
                DUE.is("isRegion(" + all + ") with a state more", x.isRegion(all), true);
            }
        }
    }

    private static void notMixed() {
        for (int label = 0; label < 6; label++) {
            RegionNets x = Systems.system(4, 0, label, 1, 2, label, 3, 0, (label + 1) % 6, 2);
            DUE.is("isRegion({0}) with the label " + label, x.isRegion(1), false);
            DUE.is("isRegion({0, 1}): NOT and OUT", x.isRegion(3), true);
            DUE.is("isRegion({2, 3}): NOT and IN", x.isRegion(12), true);
            DUE.is("isRegion({1, 3}): IN and NOT", x.isRegion(10), true);
            DUE.is("isRegion({0, 3}): MIXED and OUT", x.isRegion(9), false);
            DUE.is("regionCount()", x.regionCount(), 4);
        }
    }

    // ---- promises 13 to 15

    private static void lists() {
        DUE.sentence("Returns the number of regions.", () -> {
            DUE.is("regionCount() of one state", new RegionNets().regionCount(), 0);
            DUE.is("regionCount() of two states", Systems.system(2).regionCount(), 2);
            DUE.is("regionCount() of swap", Systems.swap().regionCount(), 0);
            DUE.is("regionCount() of a ring of 12", Systems.ringOfOneLabel(12).regionCount(), 0);
            DUE.is("regionCount() of 12 states", Systems.system(12).regionCount(), 4094);
            DUE.is("regionCount() of 12 states and one step", Systems.system(12, 0, 0, 11).regionCount(), 4094);
        });
        DUE.sentence("Regions are numbered from 0 in ascending order of the numbers that tell them.",
            RegionBoundariesTest::ascending);
        DUE.sentence("Throws `IndexOutOfBoundsException` if there is no such region",
            RegionBoundariesTest::noSuchRegion);
        DUE.sentence("A region is least if no other region is a part of it.", RegionBoundariesTest::least);
        DUE.sentence("no other region", RegionBoundariesTest::noOtherRegion);
    }

    private static void ascending() {
        RegionNets x = Systems.system(8);
        for (int i = 0; i < 254; i++) {
            DUE.is("region(" + i + ") of 8 states", x.region(i), i + 1);
        }
        RegionNets full = Systems.system(12);
        for (int i = 0; i < 4094; i += 63) {
            DUE.is("region(" + i + ") of 12 states", full.region(i), i + 1);
        }
        DUE.is("region(4093) of 12 states", full.region(4093), 4094);
        RegionNets some = Systems.diamond();
        int[] sets = {3, 5, 10, 12};
        for (int i = 0; i < 4; i++) {
            DUE.is("region(" + i + ") of the diamond", some.region(i), sets[i]);
        }
    }

    private static void noSuchRegion() {
        refuseRegions(new RegionNets(), 0);
        refuseRegions(Systems.swap(), 0);
        refuseRegions(Systems.system(2), 2);
        refuseRegions(Systems.diamond(), 4);
        refuseRegions(Systems.system(12), 4094);
        RegionNets x = Systems.system(3);
        DUE.is("region(5) of 3 states", x.region(5), 6);
        x.step(0, 0, 1);
        x.step(1, 0, 2);
        x.step(2, 0, 0);
        DUE.isThrown("region(5) with a ring", INDEX, () -> x.region(5));
        DUE.isThrown("isLeast(0) with a ring", INDEX, () -> x.isLeast(0));
    }

    private static void refuseRegions(RegionNets x, int count) {
        for (int no : new int[] {-1, count, count + 1, 4094, 4095, 4096, Integer.MIN_VALUE, Integer.MAX_VALUE}) {
            DUE.isThrown("region(" + no + ") of " + count, INDEX, () -> x.region(no));
            DUE.isThrown("isLeast(" + no + ") of " + count, INDEX, () -> x.isLeast(no));
        }
    }

    private static void least() {
        RegionNets x = Systems.system(12);
        for (int i = 0; i < 64; i++) {
            boolean single = Integer.bitCount(i + 1) == 1;
            DUE.is("isLeast(" + i + "): the set " + (i + 1), x.isLeast(i), single);
        }
        for (int k = 0; k < 12; k++) {
            DUE.is("isLeast() of {" + k + "}", x.isLeast((1 << k) - 1), true);
        }
        DUE.is("isLeast(2048): {0, 11}", x.isLeast(2048), false);
        DUE.is("isLeast(3071): {10, 11}", x.isLeast(3071), false);
        DUE.is("isLeast(4093): all but 0", x.isLeast(4093), false);
        RegionNets part = Systems.system(4, 1, 0, 2, 2, 0, 1);
        DUE.is("isLeast(2): {0} and {1, 2} are parts of {0, 1, 2}", part.isLeast(2), false);
        DUE.is("isLeast(1): {1, 2}", part.isLeast(1), true);
        RegionNets before = Systems.system(4, 0, 0, 3, 3, 0, 0);
        DUE.is("region(2): {1, 2}", before.region(2), 6);
        DUE.is("isLeast(2): {2}, just before it, is a part", before.isLeast(2), false);
    }

    private static void noOtherRegion() {
        RegionNets x = Systems.system(2);
        DUE.is("isLeast(0): it is not its own part", x.isLeast(0), true);
        DUE.is("isLeast(1): the other one lies beside it", x.isLeast(1), true);
        RegionNets diamond = Systems.diamond();
        for (int i = 0; i < 4; i++) {
            DUE.is("isLeast(" + i + ") of the diamond: others share one state", diamond.isLeast(i), true);
        }
        RegionNets lone = Systems.system(4, 1, 0, 3, 3, 0, 1, 1, 1, 2, 2, 1, 1);
        DUE.is("isLeast(1): the parts of {1, 2, 3} are no regions", lone.isLeast(1), true);
    }

    // ---- promise 16

    private static void growing() {
        DUE.sentence("Makes a set of states greater until no label crosses it MIXED", () -> {
            RegionNets x = Systems.diamond();
            for (int set : new int[] {0, 3, 5, 10, 12, 15}) {
                DUE.is("grow(" + set + "): as it is", x.grow(set), set);
            }
            DUE.is("grow({0}) in the slowest way", Systems.system(12, Systems.SLOW_GROWTH).grow(1), 4095);
            DUE.is("grow({1}) in a ring", Systems.ringOfOneLabel(12).grow(2), 4095);
            DUE.is("grow({0}) of one state", Systems.system(1, 0, 0, 0).grow(1), 1);
        });
        DUE.sentence("as long as there are such labels", RegionBoundariesTest::growingOn);
        DUE.sentence("the smallest one is taken", RegionBoundariesTest::smallestFirst);
        DUE.sentence("if steps with it begin in the set, but none ends in it, the states where its steps begin", () -> {
            RegionNets x = Systems.system(8, 0, 0, 1, 2, 0, 3, 4, 0, 5);
            DUE.is("grow({0})", x.grow(1), 21);
            DUE.is("grow({2, 4})", x.grow(20), 21);
            DUE.is("grow({4, 7})", x.grow(144), 149);
        });
        DUE.sentence("otherwise those where they end", () -> {
            RegionNets x = Systems.system(8, 0, 0, 1, 2, 0, 3, 4, 0, 5);
            DUE.is("grow({1}): none begins in it", x.grow(2), 42);
            DUE.is("grow({3, 5})", x.grow(40), 42);
            DUE.is("grow({1, 7})", x.grow(130), 170);
            RegionNets both = Systems.system(8, 0, 0, 1, 2, 0, 1);
            DUE.is("grow({0, 1}): one inside, and the one end is not new", both.grow(3), 7);
            RegionNets ends = Systems.system(8, 0, 0, 1, 1, 0, 4, 2, 1, 6, 4, 1, 7);
            DUE.is("grow({0, 1}): one begins and one ends in it, so the end 4 comes", ends.grow(3), 19 + 4);
        });
        DUE.sentence("but if none of these is new, those where they begin", () -> {
            RegionNets x = Systems.system(8, 0, 0, 1, 2, 0, 3, 4, 0, 5);
            DUE.is("grow({0, 1, 3, 5})", x.grow(43), 63);
            DUE.is("grow({1, 2, 3, 5, 7})", x.grow(174), 191);
            DUE.is("grow({0, 3}): first the ends, then those", x.grow(9), 63);
        });
    }

    private static void growingOn() {
        // The label 5 brings the state 2, and only then the smaller label is MIXED.
        RegionNets x = Systems.system(6, 0, 5, 1, 2, 5, 3, 2, 0, 4, 5, 0, 4);
        DUE.is("crossing({0}, 0)", x.crossing(1, 0), NOT);
        DUE.is("grow({0})", x.grow(1), 37);
        DUE.is("isRegion() of what it is then", x.isRegion(37), true);
        RegionNets twice = Systems.system(6, 0, 5, 1, 2, 5, 3, 4, 5, 5);
        DUE.is("grow({0, 3}): the same label twice", twice.grow(9), 63);
    }

    private static void smallestFirst() {
        // The label 1 brings the state 0; then both 0 and 2 are MIXED, and either would suffice.
        RegionNets back = Systems.system(8, 5, 1, 6, 0, 1, 7, 2, 0, 0, 3, 0, 1, 0, 2, 1, 2, 2, 3);
        DUE.is("grow({5}): behind the label 1 the label 0 comes before 2", back.grow(32), 35);
        for (int less = 0; less < 5; less++) {
            for (int more = less + 1; more < 6; more++) {
                RegionNets ends = Systems.system(4, 2, less, 0, 3, less, 1, 0, more, 1, 2, more, 3);
                DUE.is("grow({0}): " + less + " brings where it ends", ends.grow(1), 3);
                RegionNets begins = Systems.system(4, 2, more, 0, 3, more, 1, 0, less, 1, 2, less, 3);
                DUE.is("grow({0}): " + less + " brings where it begins", begins.grow(1), 5);
            }
        }
    }

    // ---- promise 17

    private static void telling() {
        DUE.sentence("A state is told apart from another one by a region if just one of them is in it.", () -> {
            RegionNets x = Systems.diamond();
            DUE.is("apart(0, 1): both are in the region 0", x.apart(0, 1), 1);
            DUE.is("apart(2, 3): neither is in the region 0", x.apart(2, 3), 1);
            DUE.is("apart(0, 2)", x.apart(0, 2), 0);
            DUE.is("apart(2, 0)", x.apart(2, 0), 0);
        });
        DUE.sentence("Returns the number of the first region that tells them apart", () -> {
            RegionNets x = Systems.system(12);
            DUE.is("apart(0, 11)", x.apart(0, 11), 0);
            DUE.is("apart(10, 11)", x.apart(10, 11), 1023);
            DUE.is("apart(11, 10)", x.apart(11, 10), 1023);
        });
        DUE.sentence("-1 if there is none.", () -> {
            RegionNets x = Systems.system(4, 0, 0, 1, 1, 0, 0, 2, 1, 3, 3, 1, 2);
            DUE.is("apart(0, 1)", x.apart(0, 1), -1);
            DUE.is("apart(3, 2)", x.apart(3, 2), -1);
            DUE.is("apart(1, 2)", x.apart(1, 2), 0);
            for (int s = 0; s < 4; s++) {
                DUE.is("apart(" + s + ", " + s + "): the same state", x.apart(s, s), -1);
            }
            DUE.is("apart(0, 0) of one state", new RegionNets().apart(0, 0), -1);
            DUE.is("apart(11, 11) of 12 states", Systems.system(12).apart(11, 11), -1);
            DUE.is("apart(0, 11) without regions", Systems.ringOfOneLabel(12).apart(0, 11), -1);
        });
    }

    // ---- promise 18

    private static void preventing() {
        DUE.sentence("by a region that the label crosses OUT, and in which the state is not", () -> {
            RegionNets x = Systems.system(4, 0, 0, 1, 2, 0, 3);
            DUE.is("preventer(1, 0): the region {0, 2}", x.preventer(1, 0), 1);
            DUE.is("preventer(3, 0): the region {0, 2}", x.preventer(3, 0), 1);
        });
        DUE.sentence("by a region that the label crosses IN, and in which the state is", () -> {
            RegionNets x = Systems.system(3, 2, 0, 0);
            DUE.is("preventer(0, 0): the region {0}", x.preventer(0, 0), 0);
            DUE.is("preventer(1, 0): the region {0, 1}", x.preventer(1, 0), 2);
        });
        DUE.sentence("Returns the number of the first region by which the label is prevented in the state", () -> {
            RegionNets x = Systems.system(12, 10, 5, 11);
            DUE.is("preventer(0, 5): {10}", x.preventer(0, 5), 1023);
            DUE.is("preventer(11, 5): {10}", x.preventer(11, 5), 1023);
            RegionNets y = Systems.system(12, 11, 5, 10);
            DUE.is("preventer(0, 5): {0, 10}", y.preventer(0, 5), 1024);
            DUE.is("preventer(10, 5): {10}", y.preventer(10, 5), 1023);
        });
        DUE.sentence("-1 if there is none", RegionBoundariesTest::noPreventer);
        DUE.sentence("-2 if there is a step with it from there.", () -> {
            RegionNets x = Systems.system(12, 0, 0, 1, 11, 5, 11);
            DUE.is("preventer(0, 0)", x.preventer(0, 0), -2);
            DUE.is("preventer(11, 5): a loop", x.preventer(11, 5), -2);
            DUE.is("preventer(0, 0) of one state", Systems.system(1, 0, 0, 0).preventer(0, 0), -2);
            DUE.is("preventer(3, 0) of a ring", Systems.ringOfOneLabel(12).preventer(3, 0), -2);
            x.unstep(0, 0);
            DUE.is("preventer(0, 0) behind unstep", x.preventer(0, 0), -1);
        });
    }

    private static void noPreventer() {
        RegionNets like = Systems.system(3, 0, 0, 1, 0, 1, 2, 2, 1, 0);
        DUE.is("preventer(2, 0): it is in what the label leaves, not in what it enters", like.preventer(2, 0), -1);
        DUE.is("preventer(1, 0) beside it", like.preventer(1, 0), 0);
        RegionNets loop = Systems.system(12, 0, 0, 0);
        DUE.is("preventer(11, 0): the label crosses nothing", loop.preventer(11, 0), -1);
        DUE.is("preventer(11, 1): no steps with the label at all", loop.preventer(11, 1), -1);
        DUE.is("preventer(0, 0) of one state", new RegionNets().preventer(0, 0), -1);
        RegionNets ring = Systems.ringOfOneLabel(12);
        ring.step(0, 4, 0);
        DUE.is("preventer(5, 4) without regions", ring.preventer(5, 4), -1);
    }

    // ---- promises 19 to 21

    /** A ring with the label 0, so that there are no regions, and a loop at 0 with each other label. */
    private static RegionNets worst() {
        RegionNets x = Systems.ringOfOneLabel(12);
        for (int label = 1; label < 6; label++) {
            x.step(0, label, 0);
        }
        return x;
    }

    private static void counting() {
        DUE.sentence("Returns how many pairs of two different states (without an order) no region tells apart.", () -> {
            DUE.is("lumps() of one state", new RegionNets().lumps(), 0);
            DUE.is("lumps() of two states", Systems.system(2).lumps(), 0);
            DUE.is("lumps() of swap", Systems.swap().lumps(), 1);
            DUE.is("lumps() of two pairs", Systems.system(4, 0, 0, 1, 1, 0, 0, 2, 1, 3, 3, 1, 2).lumps(), 2);
            DUE.is("lumps() of the last two, not reached", Systems.system(12, 10, 0, 11, 11, 0, 10).lumps(), 1);
            DUE.is("lumps() of 12 states", Systems.system(12).lumps(), 0);
            DUE.is("lumps() of a ring of 12", Systems.ringOfOneLabel(12).lumps(), 66);
        });
        DUE.sentence("that no region prevents there, though there is no step with it from there", () -> {
            DUE.is("leaks() of a ring of 12: steps from everywhere", Systems.ringOfOneLabel(12).leaks(), 0);
            DUE.is("leaks() of the diamond: all prevented", Systems.diamond().leaks(), 0);
            DUE.is("leaks() of a way of one label", Systems.system(3, 0, 0, 1, 1, 0, 2).leaks(), 1);
            DUE.is("leaks() of the worst", worst().leaks(), 55);
            DUE.is("leaks() where a region prevents some", Systems.system(3, 0, 0, 1, 0, 1, 2, 2, 1, 0).leaks(), 2);
        });
        DUE.sentence("but steps with it elsewhere.", () -> {
            DUE.is("leaks() of one state", new RegionNets().leaks(), 0);
            DUE.is("leaks() of 12 states", Systems.system(12).leaks(), 0);
            RegionNets x = Systems.system(12, 11, 5, 11);
            DUE.is("leaks() with a loop at 11, not reached", x.leaks(), 11);
            x.unstep(11, 5);
            DUE.is("leaks() when it is removed", x.leaks(), 0);
        });
    }

    private static void fidelity() {
        DUE.sentence("Returns 1 minus the quotient of lumps() and leaks() together and the number of all pairs", () -> {
            fidelity("the diamond", Systems.diamond(), 1.0);
            fidelity("lumps and leaks", Systems.system(4, 0, 0, 1, 1, 0, 0, 2, 1, 3, 3, 1, 2), 1.0 - 6.0 / 10.0);
            fidelity("leaks alone", Systems.system(12, 11, 5, 11), 1.0 - 11.0 / 77.0);
            fidelity("lumps alone", Systems.system(3, 0, 0, 1, 1, 0, 0, 2, 0, 2), 1.0 - 1.0 / 3.0);
            fidelity("a ring of 12", Systems.ringOfOneLabel(12), 0.0);
            fidelity("the worst", worst(), 0.0);
        });
        DUE.sentence("two different states, without an order; and a state and a label without a step from there", () -> {
            fidelity("66 pairs of states", Systems.system(12, 10, 0, 11, 11, 0, 10), 1.0 - 11.0 / 76.0);
            fidelity("a label with steps from all states", Systems.system(2, 0, 0, 0, 1, 0, 1), 1.0);
            fidelity("a label with steps from one state", Systems.system(2, 0, 0, 0), 0.5);
            fidelity("a label with steps from nowhere", Systems.system(2, 0, 0, 1), 1.0);
        });
        DUE.sentence("1 if there are none of these.", () -> {
            fidelity("one state", new RegionNets(), 1.0);
            fidelity("one state with a step", Systems.system(1, 0, 5, 0), 1.0);
            fidelity("one state with six steps", Systems.system(1, 0, 0, 0, 0, 1, 0, 0, 2, 0, 0, 3, 0, 0, 4, 0,
                0, 5, 0), 1.0);
        });
    }

    private static void fidelity(String name, RegionNets x, double want) {
        DUE.isDouble("fidelity() of " + name, x.fidelity(), want);
    }
}
