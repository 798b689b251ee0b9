/** Systems to look at, and numbers that are wrong. */
final class Systems {
    /** The wrong ones next to the labels, and those that a shift takes for a label. */
    static final int[] NO_LABELS = {-1, 6, 7, 12, 31, 32, 33, 37, 64,
        Integer.MIN_VALUE, Integer.MIN_VALUE + 1, Integer.MAX_VALUE};

    private Systems() {
    }

    /** A system with so many states; its steps are told as rows of from, label, to. */
    static RegionNets system(int states, int... steps) {
        RegionNets x = new RegionNets();
        for (int s = 1; s < states; s++) {
            x.addState();
        }
        for (int i = 0; i + 2 < steps.length; i += 3) {
            x.step(steps[i], steps[i + 1], steps[i + 2]);
        }
        return x;
    }

    static PlainModel model(int states, int... steps) {
        PlainModel x = new PlainModel();
        for (int s = 1; s < states; s++) {
            x.addState();
        }
        for (int i = 0; i + 2 < steps.length; i += 3) {
            x.step(steps[i], steps[i + 1], steps[i + 2]);
        }
        return x;
    }

    /** Faithful, with the places {0}, {1} and {2}, of which just one is marked. */
    static RegionNets ring() {
        return system(3, 0, 0, 1, 1, 1, 2, 2, 2, 0);
    }

    /** Faithful, with the places {0, 1}, {0, 2}, {1, 3} and {2, 3}: two labels in either order. */
    static RegionNets diamond() {
        return system(4, 0, 0, 1, 0, 1, 2, 1, 1, 3, 2, 0, 3);
    }

    /** Without regions: one label leads to and fro between two states. */
    static RegionNets swap() {
        return ringOfOneLabel(2);
    }

    /** Without regions: each set that is not empty is left and entered. */
    static RegionNets ringOfOneLabel(int states) {
        RegionNets x = system(states);
        for (int s = 0; s < states; s++) {
            x.step(s, 0, (s + 1) % states);
        }
        return x;
    }

    // The larger ones were found by search.

    /** A system with just 30 least regions. */
    static final int[] THIRTY = {1, 4, 5, 1, 5, 9, 2, 1, 8, 4, 1, 7, 6, 5, 4, 8, 2, 8, 8, 4, 3,
        10, 3, 3, 11, 3, 0, 11, 4, 4};

    /** With 34 least regions; a net with all of them could come to 4 markings, one with 30 to 8. */
    static final int[] THIRTY_FOUR = {0, 0, 3, 0, 2, 8, 5, 5, 8, 6, 1, 5, 6, 2, 4, 6, 5, 7, 8, 4, 1,
        9, 4, 6, 10, 0, 4, 11, 3, 2};

    /** With 34 least regions; a net with all of them would be faithful, one with 30 is not. */
    static final int[] UNFAITHFUL_BY_30 = {1, 3, 10, 1, 4, 2, 3, 0, 9, 4, 1, 10, 5, 4, 7, 9, 1, 0,
        9, 3, 7, 10, 0, 8, 11, 2, 4};

    /** With 34 least regions; at first a label could fire but for the places to which it produces. */
    static final int[] BLOCKED = {0, 2, 5, 1, 1, 9, 2, 0, 1, 2, 3, 3, 6, 1, 10, 7, 3, 0, 8, 2, 2,
        10, 0, 0, 11, 4, 3};

    /** With 64 least regions. */
    static final int[] SIXTY_FOUR = {0, 1, 10, 0, 4, 1, 1, 0, 7, 1, 3, 6, 2, 1, 11, 3, 2, 9,
        4, 5, 4, 5, 4, 11, 6, 2, 4, 8, 0, 5, 9, 3, 5};

    /** A net with 48 markings that can come, though the system has 12 states. */
    static final int[] MANY_MARKINGS = {0, 3, 1, 1, 0, 5, 2, 4, 4, 2, 5, 6, 3, 0, 8, 3, 3, 9,
        3, 5, 10, 5, 4, 3, 6, 1, 7, 10, 1, 11, 10, 2, 4};

    /** The state 0 grows to all of them by one state at a time. */
    static final int[] SLOW_GROWTH = {0, 0, 0, 0, 2, 11, 1, 1, 4, 1, 3, 3, 1, 5, 10, 2, 3, 0,
        2, 4, 7, 3, 0, 7, 3, 4, 6, 4, 1, 3, 4, 2, 3, 4, 3, 10, 4, 5, 1, 5, 4, 11, 5, 5, 9, 6, 3, 6,
        6, 4, 11, 6, 5, 6, 7, 3, 3, 7, 5, 2, 9, 4, 10, 9, 5, 8, 10, 0, 3, 10, 5, 1, 11, 3, 4,
        11, 4, 9, 11, 5, 0};

    /** Two labels in either order, and a third one behind both of them. */
    static RegionNets meeting() {
        return system(4, 0, 0, 1, 0, 1, 2, 1, 1, 3, 2, 0, 3, 3, 2, 0);
    }

    /** Faithful: twelve states, three by four, with five labels that lead on in two directions. */
    static RegionNets grid() {
        RegionNets x = system(12);
        for (int s = 0; s < 12; s++) {
            if (s / 4 < 2) {
                x.step(s, s / 4, s + 4);
            }
            if (s % 4 < 3) {
                x.step(s, 2 + s % 4, s + 1);
            }
        }
        return x;
    }

    static RegionNets crowd() {
        return system(12, SIXTY_FOUR);
    }

    /** Wrong numbers of states: those next to the right ones, and those that a shift takes for one. */
    static int[] noStates(int states) {
        return new int[] {-1, -states, states, states + 1, 12, 13, 31, 32, 33, 64,
            Integer.MIN_VALUE, Integer.MIN_VALUE + 1, Integer.MAX_VALUE};
    }

    /** Numbers that tell sets with something that is no state. */
    static int[] noSets(int states) {
        int next = 1 << states;
        return new int[] {next, next + 1, 2 * next - 1, 1 << 12, 1 << 30, 1 << 31, (1 << 31) + 1,
            -1, -next, Integer.MAX_VALUE};
    }

    static long digestOf(long... numbers) {
        long d = 151;
        for (long x : numbers) {
            d = d * 31 + x;
        }
        return d;
    }

    /** Everything that can be asked of a system and its net, in few calls. */
    static String told(RegionNets x) {
        StringBuilder text = new StringBuilder();
        text.append(x.stateCount()).append(' ').append(x.digest()).append(' ').append(x.reached());
        text.append(' ').append(x.lumps()).append(' ').append(x.leaks()).append(' ').append(x.hasNet());
        if (x.hasNet()) {
            text.append(' ').append(x.marking()).append(' ').append(x.isFaithful());
            for (int label = 0; label < 6; label++) {
                text.append(' ').append(x.consumed(label)).append(' ').append(x.produced(label));
            }
            for (int i = 0; i < x.markingCount(); i++) {
                text.append(' ').append(x.markingAt(i));
            }
        }
        return text.toString();
    }
}
