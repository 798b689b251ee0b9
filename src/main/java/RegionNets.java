/**
 * Makes nets from systems of states: finds the regions of a system, tells what they cannot keep
 * apart or prevent, and plays the net whose places are the least regions.
 * Sets of states, labels and places are sums of the powers 2^k of their numbers k.
 */
public final class RegionNets {
    private static final int MOST_STATES = 12;
    private static final int LABELS = 6;
    // All sets of 12 states but the empty one and the whole one.
    private static final int MOST_REGIONS = 4094;
    private static final int MOST_PLACES = 30;
    private static final int MOST_MARKINGS = 200;

    private static final int NOT = 0;
    private static final int IN = 1;
    private static final int OUT = 2;
    private static final int MIXED = 3;

    private static final int NONE = -1;
    private static final int HAS_STEP = -2;

    private static final long DIGEST_START = 151L;
    private static final long DIGEST_FACTOR = 31L;

    private final Steps steps;
    private final Regions regions;
    private final Net net;

    public RegionNets() {
        steps = new Steps();
        regions = new Regions(steps);
        net = new Net(steps, regions);
    }

    // ---- the system

    public int addState() throws IllegalStateException {
        if (steps.states >= MOST_STATES) {
            throw new IllegalStateException("there are 12 states");
        }
        int added = steps.states;
        steps.states = added + 1;
        changed();
        return added;
    }

    public int step(int from, int label, int to) throws IndexOutOfBoundsException {
        needState(from);
        needLabel(label);
        needState(to);
        int before = steps.end(from, label);
        steps.put(from, label, to);
        changed();
        return before;
    }

    public boolean unstep(int from, int label) throws IndexOutOfBoundsException {
        needState(from);
        needLabel(label);
        boolean was = steps.end(from, label) != NONE;
        if (was) {
            steps.put(from, label, NONE);
        }
        changed();
        return was;
    }

    public int rename(int label, int other) throws IndexOutOfBoundsException, IllegalStateException {
        needLabel(label);
        needLabel(other);
        int moved = steps.beginning(label);
        if (label != other) {
            if ((moved & steps.beginning(other)) != 0) {
                throw new IllegalStateException("a state has steps with both labels");
            }
            steps.move(label, other);
        }
        changed();
        return Integer.bitCount(moved);
    }

    public int stateCount() {
        return steps.states;
    }

    public int target(int from, int label) throws IndexOutOfBoundsException {
        needState(from);
        needLabel(label);
        return steps.end(from, label);
    }

    public int enabled(int state) throws IndexOutOfBoundsException {
        needState(state);
        int labels = 0;
        for (int label = 0; label < LABELS; label++) {
            if (steps.end(state, label) != NONE) {
                labels |= 1 << label;
            }
        }
        return labels;
    }

    public int reached() {
        return steps.reachedStates();
    }

    public int distance(int state) throws IndexOutOfBoundsException {
        needState(state);
        return steps.distanceTo(state);
    }

    // ---- regions

    public int crossing(int set, int label) throws IllegalArgumentException, IndexOutOfBoundsException {
        needSet(set);
        needLabel(label);
        return steps.way(set, label);
    }

    public boolean isRegion(int set) throws IllegalArgumentException {
        needSet(set);
        return regions.isOne(set);
    }

    public int regionCount() {
        return regions.count();
    }

    public int region(int region) throws IndexOutOfBoundsException {
        needRegion(region);
        return regions.at(region);
    }

    public boolean isLeast(int region) throws IndexOutOfBoundsException {
        needRegion(region);
        return regions.hasNoPart(region);
    }

    public int grow(int set) throws IllegalArgumentException {
        needSet(set);
        return steps.grown(set);
    }

    public int apart(int a, int b) throws IndexOutOfBoundsException {
        needState(a);
        needState(b);
        return regions.firstApart(a, b);
    }

    public int preventer(int state, int label) throws IndexOutOfBoundsException {
        needState(state);
        needLabel(label);
        if (steps.end(state, label) != NONE) {
            return HAS_STEP;
        }
        return regions.firstPreventing(state, label);
    }

    public int lumps() {
        return regions.pairsNotApart();
    }

    public int leaks() {
        return regions.pairsNotPrevented();
    }

    public double fidelity() {
        int pairs = steps.statePairs() + steps.stopPairs();
        if (pairs == 0) {
            return 1.0;
        }
        int wrong = regions.pairsNotApart() + regions.pairsNotPrevented();
        return 1.0 - (double) wrong / (double) pairs;
    }

    // ---- the net

    public int makeNet() {
        if (!net.made) {
            net.make();
        }
        net.present = net.first;
        return net.places;
    }

    public boolean hasNet() {
        return net.made;
    }

    public int placeRegion(int place) throws IllegalStateException, IndexOutOfBoundsException {
        needNet();
        if (place < 0 || place >= net.places) {
            throw new IndexOutOfBoundsException("no such place");
        }
        return net.regionOf(place);
    }

    public int consumed(int label) throws IllegalStateException, IndexOutOfBoundsException {
        needNet();
        needLabel(label);
        return net.takenBy(label);
    }

    public int produced(int label) throws IllegalStateException, IndexOutOfBoundsException {
        needNet();
        needLabel(label);
        return net.givenBy(label);
    }

    public int marking() throws IllegalStateException {
        needNet();
        return net.present;
    }

    public int fire(int label) throws IllegalStateException, IndexOutOfBoundsException {
        needNet();
        needLabel(label);
        if (!net.canFire(label, net.present)) {
            return NONE;
        }
        net.present = net.behind(label, net.present);
        return net.present;
    }

    public int markingCount() throws IllegalStateException {
        needNet();
        return net.markingsFound();
    }

    public int markingAt(int number) throws IllegalStateException, IndexOutOfBoundsException {
        needNet();
        if (number < 0 || number >= net.markingsFound()) {
            throw new IndexOutOfBoundsException("no such marking");
        }
        return net.markingFound(number);
    }

    public boolean isFaithful() throws IllegalStateException {
        needNet();
        return net.behavesLikeSystem();
    }

    public long digest() {
        long d = mixed(DIGEST_START, steps.states);
        for (int state = 0; state < steps.states; state++) {
            for (int label = 0; label < LABELS; label++) {
                d = mixed(d, steps.end(state, label));
            }
        }
        int count = regions.count();
        d = mixed(d, count);
        for (int region = 0; region < count; region++) {
            d = mixed(d, regions.at(region));
        }
        if (net.made) {
            d = mixed(d, net.places);
            d = mixed(d, net.present);
        }
        return d;
    }

    private static long mixed(long d, int x) {
        return d * DIGEST_FACTOR + x;
    }

    private void changed() {
        regions.known = false;
        net.made = false;
    }

    private void needState(int state) {
        if (state < 0 || state >= steps.states) {
            throw new IndexOutOfBoundsException("no such state");
        }
    }

    private static void needLabel(int label) {
        if (label < 0 || label >= LABELS) {
            throw new IndexOutOfBoundsException("no such label");
        }
    }

    private void needSet(int set) {
        if (set < 0 || set > steps.all()) {
            throw new IllegalArgumentException("the set contains something that is no state");
        }
    }

    private void needRegion(int region) {
        if (region < 0 || region >= regions.count()) {
            throw new IndexOutOfBoundsException("no such region");
        }
    }

    private void needNet() {
        if (!net.made) {
            throw new IllegalStateException("no net was made since the last change");
        }
    }

    /** Whether the thing with this number is in the set. */
    private static boolean has(int set, int number) {
        return ((set >> number) & 1) != 0;
    }

    /** The states and their steps. */
    private static final class Steps {
        // The tables of sources are kept for half of the states each: one for all of them would
        // have 4096 entries a label.
        private static final int HALF = 6;
        private static final int HALF_SETS = 64;
        private static final int HALF_MASK = 63;

        private int states;
        /** By label and state: where the step ends, or NONE. */
        private final int[][] ends;
        /** By label: the states where its steps begin. */
        private final int[] begins;
        /** By label and set of the states 0 to 5: where the steps that end in it begin. */
        private final int[][] lowSources;
        /** By label and set of the states 6 to 11: where the steps that end in it begin. */
        private final int[][] highSources;

        Steps() {
            states = 1;
            ends = new int[LABELS][MOST_STATES];
            begins = new int[LABELS];
            lowSources = new int[LABELS][HALF_SETS];
            highSources = new int[LABELS][HALF_SETS];
            for (int label = 0; label < LABELS; label++) {
                for (int state = 0; state < MOST_STATES; state++) {
                    ends[label][state] = NONE;
                }
            }
        }

        int all() {
            return (1 << states) - 1;
        }

        int end(int from, int label) {
            return ends[label][from];
        }

        int beginning(int label) {
            return begins[label];
        }

        void put(int from, int label, int to) {
            setEnd(from, label, to);
            learnSources(label);
        }

        /** Gives the steps with a label another one; no state has both. */
        void move(int label, int other) {
            for (int state = 0; state < states; state++) {
                int to = ends[label][state];
                if (to != NONE) {
                    setEnd(state, other, to);
                    setEnd(state, label, NONE);
                }
            }
            learnSources(label);
            learnSources(other);
        }

        private void setEnd(int from, int label, int to) {
            ends[label][from] = to;
            int bit = 1 << from;
            begins[label] = to == NONE ? (begins[label] & ~bit) : (begins[label] | bit);
        }

        // The search for regions asks for the sources of thousands of sets; with these tables
        // each costs two look-ups.
        private void learnSources(int label) {
            learnHalf(label, 0, lowSources[label]);
            learnHalf(label, HALF, highSources[label]);
        }

        private void learnHalf(int label, int firstState, int[] sources) {
            for (int k = 0; k < HALF; k++) {
                int more = beginsOfStepsTo(firstState + k, label);
                int bit = 1 << k;
                for (int set = 0; set < bit; set++) {
                    sources[bit | set] = sources[set] | more;
                }
            }
        }

        private int beginsOfStepsTo(int to, int label) {
            int set = 0;
            for (int from = 0; from < states; from++) {
                if (ends[label][from] == to) {
                    set |= 1 << from;
                }
            }
            return set;
        }

        /** In which way the label crosses the set. */
        int way(int set, int label) {
            int all = begins[label];
            int inside = all & set;
            int entering = lowSources[label][set & HALF_MASK]
                | highSources[label][(set >> HALF) & HALF_MASK];
            if (inside == entering) {
                return NOT;
            }
            if (inside == 0 && entering == all) {
                return IN;
            }
            if (entering == 0 && inside == all) {
                return OUT;
            }
            return MIXED;
        }

        /** The smallest label that crosses the set MIXED, or NONE. */
        int firstMixed(int set) {
            for (int label = 0; label < LABELS; label++) {
                if (way(set, label) == MIXED) {
                    return label;
                }
            }
            return NONE;
        }

        int grown(int set) {
            int now = set;
            // Each round adds a state, so there are no more rounds than states.
            for (int round = 0; round < MOST_STATES; round++) {
                int label = firstMixed(now);
                if (label == NONE) {
                    return now;
                }
                now |= growth(now, label);
            }
            return now;
        }

        private int growth(int set, int label) {
            int sources = begins[label];
            int targets = endsOf(label);
            if ((sources & set) != 0 && (targets & set) == 0) {
                return sources;
            }
            return (targets & ~set) != 0 ? targets : sources;
        }

        private int endsOf(int label) {
            int set = 0;
            for (int state = 0; state < states; state++) {
                int to = ends[label][state];
                if (to != NONE) {
                    set |= 1 << to;
                }
            }
            return set;
        }

        int reachedStates() {
            int set = 1;
            for (int round = 1; round < states; round++) {
                set |= nextStates(set);
            }
            return set;
        }

        int distanceTo(int state) {
            int set = 1;
            for (int length = 0; length < states; length++) {
                if (has(set, state)) {
                    return length;
                }
                set |= nextStates(set);
            }
            return NONE;
        }

        /** The states where steps end that begin in the set. */
        private int nextStates(int set) {
            int next = 0;
            for (int label = 0; label < LABELS; label++) {
                for (int state = 0; state < states; state++) {
                    int to = ends[label][state];
                    if (to != NONE && has(set, state)) {
                        next |= 1 << to;
                    }
                }
            }
            return next;
        }

        int statePairs() {
            return states * (states - 1) / 2;
        }

        /** The states without a step with the label, if there are steps with it elsewhere. */
        int stopsOf(int label) {
            return begins[label] == 0 ? 0 : all() & ~begins[label];
        }

        int stopPairs() {
            int pairs = 0;
            for (int label = 0; label < LABELS; label++) {
                pairs += Integer.bitCount(stopsOf(label));
            }
            return pairs;
        }
    }

    /** The regions of the system, which are looked for when they are first asked for. */
    private static final class Regions {
        private final Steps steps;
        private final int[] sets;
        private int count;
        private boolean known;

        Regions(Steps steps) {
            this.steps = steps;
            sets = new int[MOST_REGIONS];
        }

        boolean isOne(int set) {
            return set != 0 && set != steps.all() && steps.firstMixed(set) == NONE;
        }

        int count() {
            if (!known) {
                search();
                known = true;
            }
            return count;
        }

        private void search() {
            count = 0;
            int all = steps.all();
            for (int set = 1; set < all; set++) {
                if (steps.firstMixed(set) == NONE && count < MOST_REGIONS) {
                    sets[count] = set;
                    count++;
                }
            }
        }

        /** A region below count(). */
        int at(int number) {
            return sets[number];
        }

        /** Whether no region is a part of this one; parts have smaller numbers. */
        boolean hasNoPart(int number) {
            for (int other = 0; other < number; other++) {
                if ((sets[other] & ~sets[number]) == 0) {
                    return false;
                }
            }
            return true;
        }

        int firstApart(int a, int b) {
            int end = count();
            for (int number = 0; number < end; number++) {
                if (has(sets[number], a) != has(sets[number], b)) {
                    return number;
                }
            }
            return NONE;
        }

        int firstPreventing(int state, int label) {
            int end = count();
            for (int number = 0; number < end; number++) {
                if (prevents(sets[number], state, label)) {
                    return number;
                }
            }
            return NONE;
        }

        private boolean prevents(int set, int state, int label) {
            int way = steps.way(set, label);
            return has(set, state) ? way == IN : way == OUT;
        }

        int pairsNotApart() {
            int pairs = 0;
            for (int a = 0; a < steps.states; a++) {
                for (int b = a + 1; b < steps.states; b++) {
                    if (firstApart(a, b) == NONE) {
                        pairs++;
                    }
                }
            }
            return pairs;
        }

        int pairsNotPrevented() {
            int pairs = 0;
            for (int label = 0; label < LABELS; label++) {
                pairs += Integer.bitCount(steps.stopsOf(label) & ~preventedIn(label));
            }
            return pairs;
        }

        /** The states in which a region prevents the label; where it has steps it means nothing. */
        private int preventedIn(int label) {
            int prevented = 0;
            int end = count();
            for (int number = 0; number < end; number++) {
                int way = steps.way(sets[number], label);
                if (way == OUT) {
                    prevented |= ~sets[number];
                } else if (way == IN) {
                    prevented |= sets[number];
                }
            }
            return prevented;
        }
    }

    /** The net of the least regions; its parts mean something while it is made. */
    private static final class Net {
        private final Steps steps;
        private final Regions regions;
        private boolean made;
        private int places;
        /** By place: its region. */
        private final int[] placeSets;
        /** By label: the places from which it consumes. */
        private final int[] takes;
        /** By label: the places to which it produces. */
        private final int[] gives;
        private int first;
        private int present;
        /** The markings that can come; none are found until they are first asked for. */
        private final int[] markings;
        private int found;

        Net(Steps steps, Regions regions) {
            this.steps = steps;
            this.regions = regions;
            placeSets = new int[MOST_PLACES];
            takes = new int[LABELS];
            gives = new int[LABELS];
            markings = new int[MOST_MARKINGS];
        }

        void make() {
            choosePlaces();
            for (int label = 0; label < LABELS; label++) {
                takes[label] = placesCrossed(label, OUT);
                gives[label] = placesCrossed(label, IN);
            }
            first = placesWith(0);
            found = 0;
            made = true;
        }

        // As long as there is room, each least region becomes a place; so a region is least just
        // if no place before it is a part of it.
        private void choosePlaces() {
            places = 0;
            int count = regions.count();
            for (int region = 0; region < count && places < MOST_PLACES; region++) {
                int set = regions.at(region);
                if (!holdsPlace(set)) {
                    placeSets[places] = set;
                    places++;
                }
            }
        }

        private boolean holdsPlace(int set) {
            for (int place = 0; place < places; place++) {
                if ((placeSets[place] & ~set) == 0) {
                    return true;
                }
            }
            return false;
        }

        private int placesCrossed(int label, int way) {
            int set = 0;
            for (int place = 0; place < places; place++) {
                if (steps.way(placeSets[place], label) == way) {
                    set |= 1 << place;
                }
            }
            return set;
        }

        private int placesWith(int state) {
            int set = 0;
            for (int place = 0; place < places; place++) {
                if (has(placeSets[place], state)) {
                    set |= 1 << place;
                }
            }
            return set;
        }

        int regionOf(int place) {
            return placeSets[place];
        }

        int takenBy(int label) {
            return takes[label];
        }

        int givenBy(int label) {
            return gives[label];
        }

        boolean canFire(int label, int marking) {
            return steps.beginning(label) != 0
                && (marking & takes[label]) == takes[label]
                && (marking & gives[label]) == 0;
        }

        int behind(int label, int marking) {
            return (marking & ~takes[label]) | gives[label];
        }

        int markingsFound() {
            if (found == 0) {
                findMarkings();
            }
            return found;
        }

        /** A marking below markingsFound(). */
        int markingFound(int number) {
            return markings[number];
        }

        private void findMarkings() {
            markings[0] = first;
            found = 1;
            for (int number = 0; number < MOST_MARKINGS && number < found; number++) {
                for (int label = 0; label < LABELS; label++) {
                    if (canFire(label, markings[number])) {
                        keepNew(behind(label, markings[number]));
                    }
                }
            }
        }

        private void keepNew(int marking) {
            if (found >= MOST_MARKINGS) {
                return;
            }
            for (int number = 0; number < found; number++) {
                if (markings[number] == marking) {
                    return;
                }
            }
            markings[found] = marking;
            found++;
        }

        // A step leaves just the regions that its label crosses OUT and enters those it crosses
        // IN. So along the steps from the state 0 on, the marking that a reached state must be
        // given is that of the places with it, and its steps' labels can always fire there. What
        // may fail: two states with one marking, or a label that fires where there is no step.
        boolean behavesLikeSystem() {
            int reached = steps.reachedStates();
            for (int state = 0; state < steps.states; state++) {
                if (has(reached, state) && !isMatched(state, reached)) {
                    return false;
                }
            }
            return true;
        }

        private boolean isMatched(int state, int reached) {
            int marking = placesWith(state);
            for (int label = 0; label < LABELS; label++) {
                boolean hasStep = steps.end(state, label) != NONE;
                if (canFire(label, marking) != hasStep) {
                    return false;
                }
            }
            for (int other = 0; other < state; other++) {
                if (has(reached, other) && placesWith(other) == marking) {
                    return false;
                }
            }
            return true;
        }
    }
}
