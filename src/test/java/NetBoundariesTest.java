import java.math.BigInteger;
import java.util.HashSet;
import java.util.function.Consumer;

/** The sentences on nets that name a boundary (promises 22 to 32), a test for each. */
public final class NetBoundariesTest {
    private static final Class<IndexOutOfBoundsException> INDEX = IndexOutOfBoundsException.class;
    private static final Class<IllegalStateException> STATE = IllegalStateException.class;
    private static final Due DUE = new Due("NetBoundariesTest");

    public static void main(String[] args) {
        places();
        markings();
        crossedPlaces();
        thirtyPlaces();
        keeping();
        firing();
        orderOfMarkings();
        numbersOfMarkings();
        making();
        behaving();
        digests();
        DUE.end();
    }

    private static RegionNets netOf(RegionNets x) {
        x.makeNet();
        return x;
    }

    // ---- promises 22 and 24 to 27

    private static void places() {
        DUE.sentence("The net has a place for each least region, numbered in the same order", () -> {
            placesAre("one state", new RegionNets());
            placesAre("swap", Systems.swap());
            placesAre("two states", Systems.system(2), 1, 2);
            placesAre("the ring", Systems.ring(), 1, 2, 4);
            placesAre("the diamond", Systems.diamond(), 3, 5, 10, 12);
            placesAre("{0}, {1, 2} and {3}", Systems.system(4, 1, 0, 2, 2, 0, 1), 1, 6, 8);
            placesAre("12 states", Systems.system(12), 1, 2, 4, 8, 16, 32, 64, 128, 256, 512, 1024, 2048);
        });
        DUE.sentence("Throws `IndexOutOfBoundsException` if there is no such place", () -> {
            for (RegionNets x : new RegionNets[] {new RegionNets(), Systems.diamond(), Systems.system(12),
                    Systems.system(12, Systems.THIRTY), Systems.crowd()}) {
                int count = x.makeNet();
                for (int no : new int[] {-1, count, count + 1, 30, 31, 32, Integer.MIN_VALUE, Integer.MAX_VALUE}) {
                    DUE.isThrown("placeRegion(" + no + ") of " + count, INDEX, () -> x.placeRegion(no));
                }
            }
        });
        DUE.sentence("At first the places are marked whose regions have the state 0.", () -> {
            DUE.is("marking() of one state", netOf(new RegionNets()).marking(), 0);
            DUE.is("marking() of two states", netOf(Systems.system(2)).marking(), 1);
            DUE.is("marking() of the diamond", netOf(Systems.diamond()).marking(), 3);
            DUE.is("marking() where one region with two states has it",
                netOf(Systems.system(3, 0, 0, 2, 2, 0, 0)).marking(), 2);
            DUE.is("marking() of 12 states", netOf(Systems.system(12)).marking(), 1);
            DUE.is("marking() of the crowd: all 30", netOf(Systems.crowd()).marking(), (1 << 30) - 1);
        });
    }

    private static void markings() {
        DUE.sentence("A marking is a set of places, told as the sum of the powers 2^k of their numbers k.", () -> {
            RegionNets x = netOf(Systems.system(12, 0, 0, 11, 11, 5, 10));
            DUE.is("marking(): the place 0", x.marking(), 1);
            DUE.is("fire(0): the place 11", x.fire(0), 2048);
            DUE.is("fire(5): the place 10", x.fire(5), 1024);
            DUE.is("marking() of the crowd: the places 0 to 29", netOf(Systems.crowd()).marking(), 1073741823);
        });
        DUE.sentence("Returns the present marking.", () -> {
            RegionNets x = netOf(Systems.diamond());
            DUE.is("marking() at first", x.marking(), 3);
            x.fire(0);
            DUE.is("marking() behind fire(0)", x.marking(), 5);
            x.fire(0);
            DUE.is("marking() behind a fire(0) that can't be", x.marking(), 5);
            x.markingCount();
            x.markingAt(3);
            x.isFaithful();
            DUE.is("marking() behind the markings that can come", x.marking(), 5);
            x.makeNet();
            DUE.is("marking() behind makeNet()", x.marking(), 3);
            DUE.is("marking() without places", netOf(Systems.swap()).marking(), 0);
        });
    }

    private static void placesAre(String name, RegionNets x, int... sets) {
        DUE.is("makeNet() of " + name, x.makeNet(), sets.length);
        for (int place = 0; place < sets.length; place++) {
            DUE.is("placeRegion(" + place + ") of " + name, x.placeRegion(place), sets[place]);
        }
        DUE.isThrown("placeRegion(" + sets.length + ") of " + name, INDEX, () -> x.placeRegion(sets.length));
    }

    private static void crossedPlaces() {
        DUE.sentence("A label consumes from the places whose regions it crosses OUT", () -> {
            RegionNets x = netOf(Systems.meeting());
            int[] taken = {2, 1, 12, 0, 0, 0};
            for (int label = 0; label < 6; label++) {
                DUE.is("consumed(" + label + ")", x.consumed(label), taken[label]);
            }
            DUE.is("consumed(0) of a loop", netOf(Systems.system(2, 0, 0, 0)).consumed(0), 0);
            DUE.is("consumed(5) of one state", netOf(new RegionNets()).consumed(5), 0);
            DUE.is("consumed(0) of 12 states", netOf(Systems.system(12, 11, 0, 0)).consumed(0), 2048);
        });
        DUE.sentence("and produces to those whose regions it crosses IN.", () -> {
            RegionNets x = netOf(Systems.meeting());
            int[] given = {4, 8, 3, 0, 0, 0};
            for (int label = 0; label < 6; label++) {
                DUE.is("produced(" + label + ")", x.produced(label), given[label]);
            }
            DUE.is("produced(0) of a loop", netOf(Systems.system(2, 0, 0, 0)).produced(0), 0);
            DUE.is("produced(5) of one state", netOf(new RegionNets()).produced(5), 0);
            DUE.is("produced(5) of 12 states", netOf(Systems.system(12, 0, 5, 11)).produced(5), 2048);
        });
    }

    // ---- the 30 places

    private static void thirtyPlaces() {
        DUE.sentence("A net has at most 30 places", () -> {
            DUE.is("makeNet() with 12 least regions", Systems.system(12).makeNet(), 12);
            DUE.is("makeNet() with 30 least regions", Systems.system(12, Systems.THIRTY).makeNet(), 30);
            DUE.is("makeNet() with 34 least regions", Systems.system(12, Systems.THIRTY_FOUR).makeNet(), 30);
            DUE.is("makeNet() with 64 least regions", Systems.crowd().makeNet(), 30);
            DUE.is("consumed(3) with the place 29", netOf(Systems.system(12, Systems.THIRTY)).consumed(3) >>> 29, 1);
            DUE.is("produced(1) with the place 29", netOf(Systems.system(12, Systems.THIRTY)).produced(1) >>> 29, 1);
            DUE.is("marking() with the place 29", netOf(Systems.crowd()).marking() >>> 29, 1);
        });
        DUE.sentence("of more least regions, those with the smallest numbers are places", () -> {
            for (int[] steps : new int[][] {Systems.THIRTY, Systems.THIRTY_FOUR, Systems.SIXTY_FOUR}) {
                thirtyFirst(steps);
            }
        });
        DUE.sentence("and the net is played with these alone", () -> {
            likeModel("30", Systems.THIRTY);
            likeModel("34", Systems.THIRTY_FOUR);
            likeModel("not faithful by 30", Systems.UNFAITHFUL_BY_30);
            likeModel("blocked", Systems.BLOCKED);
            likeModel("64", Systems.SIXTY_FOUR);
            DUE.is("markingCount() of 34: 4 with all of them", netOf(Systems.system(12,
                Systems.THIRTY_FOUR)).markingCount(), 8);
            DUE.is("isFaithful(): it would be with all of them", netOf(Systems.system(12,
                Systems.UNFAITHFUL_BY_30)).isFaithful(), false);
        });
    }

    private static void thirtyFirst(int[] steps) {
        RegionNets x = netOf(Systems.system(12, steps));
        PlainModel all = Systems.model(12, steps);
        int place = 0;
        for (int i = 0; i < all.regionCount() && place < 30; i++) {
            if (all.isLeast(i)) {
                DUE.is("placeRegion(" + place + ")", x.placeRegion(place), all.region(i));
                place++;
            }
        }
        DUE.is("least regions seen", place, 30);
    }

    private static void likeModel(String name, int[] steps) {
        RegionNets x = Systems.system(12, steps);
        PlainModel due = Systems.model(12, steps);
        DUE.is(name + ": makeNet()", x.makeNet(), due.makeNet());
        DUE.is(name + ": marking()", x.marking(), due.marking());
        DUE.is(name + ": isFaithful()", x.isFaithful(), due.isFaithful());
        for (int label = 0; label < 6; label++) {
            DUE.is(name + ": consumed(" + label + ")", x.consumed(label), due.consumed(label));
            DUE.is(name + ": produced(" + label + ")", x.produced(label), due.produced(label));
        }
        DUE.is(name + ": markingCount()", x.markingCount(), due.markingCount());
        for (int i = 0; i < due.markingCount(); i++) {
            DUE.is(name + ": markingAt(" + i + ")", x.markingAt(i), due.markingAt(i));
        }
        for (int i = 0; i < 24; i++) {
            int label = i * i % 6;
            DUE.is(name + ": fire(" + label + ")", x.fire(label), due.fire(label));
        }
        DUE.is(name + ": digest()", x.digest(), due.digest());
    }

    // ---- promise 23, and how long a net is kept

    private static void keeping() {
        DUE.sentence("The net is kept until the next call of addState, step, unstep or rename", () -> {
            dropped("addState()", x -> x.addState());
            dropped("step(0, 3, 2)", x -> x.step(0, 3, 2));
            dropped("unstep(0, 0)", x -> x.unstep(0, 0));
            dropped("rename(0, 3)", x -> x.rename(0, 3));
        });
        DUE.sentence("(also if it changes nothing)", () -> {
            dropped("step(0, 0, 1) as it is", x -> x.step(0, 0, 1));
            dropped("unstep(0, 5) of nothing", x -> x.unstep(0, 5));
            dropped("rename(0, 0)", x -> x.rename(0, 0));
            dropped("rename(5, 5)", x -> x.rename(5, 5));
            dropped("rename(5, 0) of nothing", x -> x.rename(5, 0));
        });
        DUE.sentence("that throws no exception", () -> {
            kept("step(0, 6, 0)", x -> x.step(0, 6, 0));
            kept("step(4, 0, 0)", x -> x.step(4, 0, 0));
            kept("step(0, 0, 4)", x -> x.step(0, 0, 4));
            kept("unstep(4, 0)", x -> x.unstep(4, 0));
            kept("unstep(0, -1)", x -> x.unstep(0, -1));
            kept("rename(0, 1)", x -> x.rename(0, 1));
            kept("rename(6, 0)", x -> x.rename(6, 0));
            RegionNets full = netOf(Systems.system(12));
            DUE.isThrown("addState() with 12 states", STATE, full::addState);
            DUE.is("hasNet() behind it", full.hasNet(), true);
        });
        DUE.sentence("Returns whether there is a net.", () -> {
            DUE.is("hasNet() of a new object", new RegionNets().hasNet(), false);
            DUE.is("hasNet() of a net without places", netOf(new RegionNets()).hasNet(), true);
            DUE.is("hasNet() of a net", netOf(Systems.diamond()).hasNet(), true);
            RegionNets x = netOf(Systems.diamond());
            Systems.told(x);
            x.target(0, 0);
            x.enabled(0);
            x.distance(3);
            x.crossing(3, 0);
            x.isRegion(3);
            x.region(0);
            x.isLeast(0);
            x.grow(1);
            x.apart(0, 1);
            x.preventer(1, 0);
            x.fidelity();
            x.placeRegion(0);
            x.fire(0);
            DUE.is("hasNet() behind all that asks or plays", x.hasNet(), true);
        });
        DUE.sentence("Throws `IllegalStateException` if no net was made since the last change",
            NetBoundariesTest::withoutNet);
    }

    private static void dropped(String change, Consumer<RegionNets> call) {
        RegionNets x = netOf(Systems.diamond());
        x.fire(0);
        call.accept(x);
        DUE.is("hasNet() behind " + change, x.hasNet(), false);
        DUE.isThrown("marking() behind " + change, STATE, x::marking);
        x.makeNet();
        DUE.is("hasNet() when it is made anew", x.hasNet(), true);
        DUE.is("marking() behind " + change + " has the places with the state 0", x.marking(), placesWithZero(x));
    }

    private static int placesWithZero(RegionNets x) {
        int marked = 0;
        int places = x.makeNet();
        for (int place = 0; place < places; place++) {
            marked |= (x.placeRegion(place) & 1) << place;
        }
        return marked;
    }

    private static void kept(String change, Consumer<RegionNets> call) {
        RegionNets x = netOf(Systems.diamond());
        x.fire(0);
        try {
            call.accept(x);
            DUE.tell(change + " throws nothing");
        } catch (IndexOutOfBoundsException | IllegalStateException e) {
            DUE.is("hasNet() behind the refused " + change, x.hasNet(), true);
            DUE.is("marking() behind the refused " + change, x.marking(), 5);
        }
    }

    private static void withoutNet() {
        RegionNets changed = netOf(Systems.diamond());
        changed.unstep(3, 5);
        for (RegionNets x : new RegionNets[] {new RegionNets(), Systems.diamond(), changed}) {
            DUE.isThrown("placeRegion(0)", STATE, () -> x.placeRegion(0));
            DUE.isThrown("consumed(0)", STATE, () -> x.consumed(0));
            DUE.isThrown("produced(0)", STATE, () -> x.produced(0));
            DUE.isThrown("marking()", STATE, x::marking);
            DUE.isThrown("fire(0)", STATE, () -> x.fire(0));
            DUE.isThrown("markingCount()", STATE, x::markingCount);
            DUE.isThrown("markingAt(0)", STATE, () -> x.markingAt(0));
            DUE.isThrown("isFaithful()", STATE, x::isFaithful);
            DUE.is("hasNet()", x.hasNet(), false);
        }
    }

    // ---- promise 28

    private static void firing() {
        DUE.sentence("A label can fire if there are steps with it", () -> {
            RegionNets x = netOf(Systems.swap());
            DUE.is("fire(0) without places: -1 would be no marking", x.fire(0), 0);
            DUE.is("fire(1) without places and steps", x.fire(1), -1);
            DUE.is("fire(5) without places and steps", x.fire(5), -1);
            RegionNets loop = netOf(Systems.system(3, 2, 5, 2));
            DUE.is("fire(5): a loop elsewhere, which consumes nothing", loop.fire(5), 1);
            DUE.is("fire(4) without steps", loop.fire(4), -1);
        });
        DUE.sentence("all places from which it consumes are marked", () -> {
            RegionNets x = netOf(Systems.meeting());
            DUE.is("fire(2): none of the two is", x.fire(2), -1);
            DUE.is("fire(0)", x.fire(0), 5);
            DUE.is("fire(2): one of the two is", x.fire(2), -1);
            DUE.is("fire(1)", x.fire(1), 12);
            DUE.is("fire(2): both are", x.fire(2), 3);
            RegionNets y = netOf(Systems.system(5, 2, 0, 4, 3, 0, 0, 3, 1, 1));
            DUE.is("marking() with the places {0, 3} and {0, 4}", y.marking(), 10);
            DUE.is("consumed(1): {0, 3} and {2, 3}", y.consumed(1), 6);
            DUE.is("produced(1): {1}, which is not marked", y.produced(1), 1);
            DUE.is("fire(1): one of the two is marked", y.fire(1), -1);
            DUE.is("markingCount()", y.markingCount(), 1);
        });
        DUE.sentence("and all places to which it produces are not", NetBoundariesTest::blockedLabels);
        DUE.sentence("then the former are marked no more, and the latter are.", () -> {
            RegionNets x = netOf(Systems.meeting());
            DUE.is("fire(1): from the place 0 to the place 3, the place 1 stays", x.fire(1), 10);
            DUE.is("marking()", x.marking(), 10);
            DUE.is("fire(0): from the place 1 to the place 2", x.fire(0), 12);
            DUE.is("fire(2): from two places to two", x.fire(2), 3);
            RegionNets y = netOf(Systems.system(12, Systems.UNFAITHFUL_BY_30));
            DUE.is("fire(2): from none to 15", y.fire(2), (1 << 30) - 2);
        });
        DUE.sentence("Returns the marking behind it; -1 if it cannot fire, and then nothing changes.", () -> {
            RegionNets x = netOf(Systems.ring());
            for (int label : new int[] {1, 2, 3, 5}) {
                DUE.is("fire(" + label + ")", x.fire(label), -1);
                DUE.is("marking() then", x.marking(), 1);
            }
            long before = x.digest();
            x.fire(2);
            DUE.is("digest() then", x.digest(), before);
            DUE.is("hasNet() then", x.hasNet(), true);
            DUE.is("fire(0) can still fire", x.fire(0), 2);
            DUE.is("fire(0) again", x.fire(0), -1);
            DUE.is("marking() then", x.marking(), 2);
        });
    }

    private static void blockedLabels() {
        RegionNets x = netOf(Systems.system(12, Systems.BLOCKED));
        DUE.is("BLOCKED: all is marked from which 4 consumes", x.marking() & x.consumed(4), x.consumed(4));
        DUE.is("BLOCKED: something is marked to which 4 produces", (x.marking() & x.produced(4)) != 0, true);
        DUE.is("BLOCKED: but not all of it", (x.marking() & x.produced(4)) != x.produced(4), true);
        DUE.is("BLOCKED: fire(4)", x.fire(4), -1);
        RegionNets y = netOf(Systems.system(12, Systems.UNFAITHFUL_BY_30));
        y.fire(2);
        for (int label = 0; label < 5; label++) {
            DUE.is("all is marked from which it consumes", y.marking() & y.consumed(label), y.consumed(label));
            DUE.is("fire(" + label + ") into marked places", y.fire(label), -1);
        }
        DUE.is("markingCount() counts none of these", y.markingCount(), 2);
    }

    // ---- promises 29 and 30

    private static void orderOfMarkings() {
        DUE.sentence("Markings that can come are those that are reached from the first one when labels fire", () -> {
            RegionNets x = netOf(Systems.system(3, 0, 0, 1, 1, 1, 2));
            x.fire(0);
            x.fire(1);
            markingsAre("behind fire(0), fire(1)", x, 1, 2, 4);
            DUE.is("marking() as before", x.marking(), 4);
            markingsAre("not what leads to the first one", netOf(Systems.system(3, 1, 0, 0, 0, 1, 2)), 1, 4);
        });
        DUE.sentence("those that come from a marking that was found earlier come earlier", () ->
            markingsAre("a tree", netOf(Systems.system(6, 0, 0, 1, 0, 1, 2, 1, 3, 3, 2, 2, 4, 3, 4, 5)),
                1, 2, 4, 8, 16, 32));
        DUE.sentence("and of one marking by ascending labels", () -> {
            markingsAre("two", netOf(Systems.system(3, 0, 5, 1, 0, 2, 2)), 1, 4, 2);
            markingsAre("six", netOf(Systems.system(7, 0, 5, 1, 0, 4, 2, 0, 3, 3, 0, 2, 4, 0, 1, 5, 0, 0, 6)),
                1, 64, 32, 16, 8, 4, 2);
        });
        DUE.sentence("each one is numbered when it is found, from 0", () -> {
            markingsAre("the diamond: the last one is found twice", netOf(Systems.diamond()), 3, 5, 10, 12);
            markingsAre("the ring: the first one is found again", netOf(Systems.ring()), 1, 2, 4);
            markingsAre("a short and a long way", netOf(Systems.system(4, 0, 0, 1, 1, 1, 2, 2, 2, 3, 0, 3, 3)),
                1, 2, 8, 4);
            markingsAre("a loop", netOf(Systems.system(2, 0, 0, 0, 0, 1, 1)), 1, 2);
        });
    }

    private static void markingsAre(String name, RegionNets x, int... markings) {
        DUE.is("markingCount(): " + name, x.markingCount(), markings.length);
        for (int i = 0; i < markings.length; i++) {
            DUE.is("markingAt(" + i + "): " + name, x.markingAt(i), markings[i]);
        }
        DUE.isThrown("markingAt(" + markings.length + "): " + name, INDEX, () -> x.markingAt(markings.length));
    }

    private static void numbersOfMarkings() {
        DUE.sentence("it ends when 200 are found, or none is left", () -> {
            // Six labels allow for no more than 64 markings, so the 200 can't be met.
            DUE.is("markingCount() of one state", netOf(new RegionNets()).markingCount(), 1);
            DUE.is("markingCount() where nothing can fire", netOf(Systems.system(12)).markingCount(), 1);
            DUE.is("markingCount() of the grid", netOf(Systems.grid()).markingCount(), 12);
            DUE.is("markingCount() beyond the states", netOf(Systems.system(12, Systems.MANY_MARKINGS)).markingCount(), 48);
            likeModel("48 markings", Systems.MANY_MARKINGS);
        });
        DUE.sentence("Returns how many markings can come (200 at most).", () -> {
            for (int[] steps : new int[][] {{}, Systems.THIRTY, Systems.THIRTY_FOUR, Systems.SIXTY_FOUR,
                    Systems.MANY_MARKINGS}) {
                RegionNets x = netOf(Systems.system(12, steps));
                HashSet<Integer> seen = new HashSet<>();
                for (int i = 0; i < x.markingCount(); i++) {
                    seen.add(x.markingAt(i));
                }
                DUE.is("markingCount() counts each once", x.markingCount(), seen.size());
                DUE.is("markingCount() is not beyond 200", x.markingCount() <= 200, true);
            }
        });
        DUE.sentence("Throws `IndexOutOfBoundsException` if there is no such marking", () -> {
            for (RegionNets x : new RegionNets[] {new RegionNets(), Systems.swap(), Systems.diamond(),
                    Systems.crowd(), Systems.system(12, Systems.MANY_MARKINGS)}) {
                x.makeNet();
                int count = x.markingCount();
                for (int no : new int[] {-1, count, count + 1, 199, 200, 201, Integer.MIN_VALUE, Integer.MAX_VALUE}) {
                    DUE.isThrown("markingAt(" + no + ") of " + count, INDEX, () -> x.markingAt(no));
                }
            }
            RegionNets unasked = netOf(Systems.diamond());
            DUE.is("markingAt(3) before markingCount()", unasked.markingAt(3), 12);
            RegionNets less = netOf(Systems.diamond());
            DUE.is("markingCount() before the change", less.markingCount(), 4);
            less.unstep(0, 0);
            less.unstep(0, 1);
            less.unstep(1, 1);
            less.unstep(2, 0);
            less.makeNet();
            DUE.isThrown("markingAt(1) behind the change", INDEX, () -> less.markingAt(1));
            DUE.is("markingCount() behind the change", less.markingCount(), 1);
        });
    }

    private static void making() {
        DUE.sentence("Makes the net, if it is not made yet.", () -> {
            RegionNets x = netOf(Systems.diamond());
            String before = Systems.told(x);
            DUE.is("makeNet() again", x.makeNet(), 4);
            DUE.isText("everything as before", Systems.told(x), before);
        });
        DUE.sentence("no net was made since the last change", NetBoundariesTest::madeAnew);
        DUE.sentence("At each call its places are marked as at first.", () -> {
            RegionNets x = netOf(Systems.diamond());
            DUE.is("fire(0)", x.fire(0), 5);
            DUE.is("makeNet() again", x.makeNet(), 4);
            DUE.is("marking()", x.marking(), 3);
            DUE.is("fire(0) again", x.fire(0), 5);
            DUE.is("fire(1)", x.fire(1), 12);
            x.makeNet();
            x.makeNet();
            DUE.is("marking() then", x.marking(), 3);
        });
        DUE.sentence("Returns the number of its places.", () -> {
            DUE.is("makeNet() of one state", new RegionNets().makeNet(), 0);
            DUE.is("makeNet() of a ring of 12", Systems.ringOfOneLabel(12).makeNet(), 0);
            DUE.is("makeNet() of two states", Systems.system(2).makeNet(), 2);
            DUE.is("makeNet() of the grid", Systems.grid().makeNet(), 7);
            DUE.is("makeNet() of 12 states", Systems.system(12).makeNet(), 12);
            DUE.is("makeNet() of 30 least regions", Systems.system(12, Systems.THIRTY).makeNet(), 30);
        });
    }

    // Nothing of the former net is left in the next one, be it smaller or larger.
    private static void madeAnew() {
        RegionNets x = netOf(Systems.diamond());
        x.addState();
        placesAre("the diamond and a state", x, 3, 5, 10, 12, 16);
        DUE.is("marking() of the diamond and a state", x.marking(), 3);
        x.rename(0, 5);
        x.makeNet();
        DUE.is("consumed(0) behind rename(0, 5)", x.consumed(0), 0);
        DUE.is("produced(0) behind rename(0, 5)", x.produced(0), 0);
        DUE.is("consumed(5) behind rename(0, 5)", x.consumed(5), 2);
        DUE.is("markingCount() behind rename(0, 5)", x.markingCount(), 4);
        x.rename(5, 5);
        x.makeNet();
        DUE.is("markingCount() of the same net made again", x.markingCount(), 4);
        RegionNets less = netOf(Systems.system(3));
        less.step(0, 0, 1);
        less.step(1, 0, 2);
        less.step(2, 0, 0);
        placesAre("three states with a ring", less);
        DUE.is("marking() of three states with a ring", less.marking(), 0);
        DUE.is("markingCount() of three states with a ring", less.markingCount(), 1);
        less.unstep(2, 0);
        less.unstep(1, 0);
        placesAre("three states with a step", less, 1, 2, 4);
        DUE.is("markingCount() of three states with a step", less.markingCount(), 2);
        DUE.is("markingAt(1) of three states with a step", less.markingAt(1), 2);
    }

    // ---- promise 31

    private static void behaving() {
        DUE.sentence("whether there is a way to give each reached state one of the markings that can come", () -> {
            faithful("one state", new RegionNets(), true);
            faithful("one state with six loops", Systems.system(1, 0, 0, 0, 0, 1, 0, 0, 2, 0, 0, 3, 0, 0, 4, 0, 0, 5, 0),
                true);
            faithful("the ring", Systems.ring(), true);
            faithful("the diamond", Systems.diamond(), true);
            faithful("the meeting", Systems.meeting(), true);
            faithful("the grid of 12 states", Systems.grid(), true);
            faithful("12 states, one reached", Systems.system(12), true);
            faithful("unreached states that no region tells from reached ones",
                Systems.system(4, 0, 0, 1, 2, 0, 1, 3, 0, 1), true);
            faithful("an unreached state that no region tells from a later one, which is reached",
                Systems.system(4, 0, 0, 2, 2, 1, 3, 1, 1, 3), true);
            faithful("unreached states with a step of their own", Systems.system(4, 0, 0, 1, 2, 1, 3), true);
            faithful("a label that leaks in unreached states alone",
                Systems.system(4, 0, 0, 1, 2, 0, 1, 3, 0, 1, 0, 1, 1), true);
        });
        DUE.sentence("different ones to different states", () -> {
            faithful("swap", Systems.swap(), false);
            faithful("a ring of 12", Systems.ringOfOneLabel(12), false);
            faithful("a way of one label", Systems.system(3, 0, 0, 1, 1, 0, 2), false);
            faithful("all labels fire where they should, but two states are one",
                Systems.system(3, 0, 0, 1, 0, 1, 0, 1, 1, 2, 2, 1, 1), false);
        });
        DUE.sentence("all of them being given", () -> {
            faithful("48 markings", Systems.system(12, Systems.MANY_MARKINGS), false);
            faithful("a marking more than states", Systems.system(4, 0, 1, 1, 0, 4, 0, 1, 0, 3, 2, 1, 3), false);
            faithful("a marking more by the bound of 30 places", Systems.system(12, Systems.UNFAITHFUL_BY_30), false);
        });
        DUE.sentence("from a state there is a step with a label just if the label can fire at its marking", () -> {
            faithful("a loop elsewhere, reached", Systems.system(2, 0, 0, 1, 1, 1, 1), false);
            faithful("a loop at the first state alone", Systems.system(2, 0, 0, 0, 0, 1, 1), false);
            faithful("a loop elsewhere, not reached", Systems.system(12, 11, 5, 11), false);
            faithful("loops everywhere", Systems.system(2, 0, 0, 1, 1, 1, 1, 0, 1, 0), true);
        });
        DUE.sentence("the first one to the state 0", () -> {
            RegionNets x = netOf(Systems.ring());
            x.fire(0);
            DUE.is("isFaithful() with another present marking", x.isFaithful(), true);
            DUE.is("marking() as before", x.marking(), 2);
            RegionNets y = netOf(Systems.swap());
            y.fire(0);
            DUE.is("isFaithful() of swap behind fire(0)", y.isFaithful(), false);
        });
    }

    private static void faithful(String name, RegionNets x, boolean want) {
        x.makeNet();
        DUE.is("isFaithful() of " + name, x.isFaithful(), want);
    }

    // ---- promise 32

    private static void digests() {
        DUE.sentence("A number d starts with 151", () ->
            DUE.is("digest() of a new object", new RegionNets().digest(), 128813142180566L));
        DUE.sentence("for each of the following numbers x, d becomes d * 31 + x, which wraps around as a 64-bit integer",
            NetBoundariesTest::wrappedDigest);
        DUE.sentence("for each state, for each label, the state where the step ends, or -1", () -> {
            RegionNets x = Systems.system(2, 0, 5, 1, 1, 0, 0);
            DUE.is("digest()", x.digest(),
                Systems.digestOf(2, -1, -1, -1, -1, -1, 1, 0, -1, -1, -1, -1, -1, 2, 1, 2));
            x.step(0, 5, 0);
            DUE.is("digest() with an end at 0", x.digest(),
                Systems.digestOf(2, -1, -1, -1, -1, -1, 0, 0, -1, -1, -1, -1, -1, 2, 1, 2));
        });
        DUE.sentence("the number of regions, and the sets of their states", () -> {
            DUE.is("digest() without regions", Systems.swap().digest(),
                Systems.digestOf(2, 1, -1, -1, -1, -1, -1, 0, -1, -1, -1, -1, -1, 0));
            DUE.is("digest() of three states", Systems.system(3, 0, 0, 2, 2, 0, 0).digest(),
                Systems.digestOf(3, 2, -1, -1, -1, -1, -1, -1, -1, -1, -1, -1, -1, 0, -1, -1, -1, -1, -1, 2, 2, 5));
        });
        DUE.sentence("if there is a net, the number of its places, and the present marking", () -> {
            RegionNets x = Systems.ring();
            long bare = x.digest();
            x.makeNet();
            DUE.is("digest() with a net", x.digest(), (bare * 31 + 3) * 31 + 1);
            x.fire(0);
            DUE.is("digest() behind fire(0)", x.digest(), (bare * 31 + 3) * 31 + 2);
            x.makeNet();
            DUE.is("digest() behind makeNet()", x.digest(), (bare * 31 + 3) * 31 + 1);
            x.rename(4, 4);
            DUE.is("digest() when the net is gone", x.digest(), bare);
            RegionNets none = netOf(new RegionNets());
            DUE.is("digest() of a net without places", none.digest(),
                Systems.digestOf(1, -1, -1, -1, -1, -1, -1, 0, 0, 0));
        });
    }

    // The numbers are taken without a bound, and what is left of them is looked at in the end.
    private static void wrappedDigest() {
        RegionNets x = netOf(Systems.system(12, 0, 0, 11, 11, 5, 0));
        BigInteger d = BigInteger.valueOf(151);
        d = next(d, 12);
        for (int at = 0; at < 72; at++) {
            d = next(d, at == 0 ? 11 : at == 71 ? 0 : -1);
        }
        d = next(d, 4094);
        for (int set = 1; set < 4095; set++) {
            d = next(d, set);
        }
        d = next(next(d, 12), 1);
        DUE.is("digest()", x.digest(), d.longValue());
        DUE.is("d has far more than 64 bits", d.bitLength() > 20000, true);
    }

    private static BigInteger next(BigInteger d, int x) {
        return d.multiply(BigInteger.valueOf(31)).add(BigInteger.valueOf(x));
    }
}
