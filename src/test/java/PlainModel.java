import java.util.ArrayList;
import java.util.HashSet;
import java.util.List;

/**
 * The document's words, taken one by one and without regard to time: what RegionNets is compared
 * with. It shares no idea with the program but the document.
 */
public final class PlainModel {
    private final List<int[]> ends = new ArrayList<>();
    private boolean net = false;
    private int present = 0;
    private List<Integer> knownRegions = null;
    private List<Integer> knownMarkings = null;

    public PlainModel() {
        ends.add(noSteps());
    }

    private static int[] noSteps() {
        return new int[] {-1, -1, -1, -1, -1, -1};
    }

    private void state(int s) {
        if (s < 0 || s >= ends.size()) {
            throw new IndexOutOfBoundsException();
        }
    }

    private static void label(int l) {
        if (l < 0 || l > 5) {
            throw new IndexOutOfBoundsException();
        }
    }

    private void set(int set) {
        for (int k = 0; k < 32; k++) {
            if (in(set, k) && k >= ends.size()) {
                throw new IllegalArgumentException();
            }
        }
    }

    private void net() {
        if (!net) {
            throw new IllegalStateException();
        }
    }

    private void change() {
        net = false;
        knownRegions = null;
        knownMarkings = null;
    }

    private static boolean in(int set, int k) {
        return (set & 1 << k) != 0;
    }

    public int addState() {
        if (ends.size() == 12) {
            throw new IllegalStateException();
        }
        ends.add(noSteps());
        change();
        return ends.size() - 1;
    }

    public int step(int from, int label, int to) {
        state(from);
        label(label);
        state(to);
        int old = ends.get(from)[label];
        ends.get(from)[label] = to;
        change();
        return old;
    }

    public boolean unstep(int from, int label) {
        state(from);
        label(label);
        boolean was = ends.get(from)[label] >= 0;
        ends.get(from)[label] = -1;
        change();
        return was;
    }

    public int rename(int label, int other) {
        label(label);
        label(other);
        for (int[] s : ends) {
            if (label != other && s[label] >= 0 && s[other] >= 0) {
                throw new IllegalStateException();
            }
        }
        int count = 0;
        for (int[] s : ends) {
            if (s[label] >= 0) {
                int to = s[label];
                s[label] = -1;
                s[other] = to;
                count++;
            }
        }
        change();
        return count;
    }

    public int stateCount() {
        return ends.size();
    }

    public int target(int from, int label) {
        state(from);
        label(label);
        return ends.get(from)[label];
    }

    public int enabled(int state) {
        state(state);
        int set = 0;
        for (int l = 0; l < 6; l++) {
            set += ends.get(state)[l] >= 0 ? 1 << l : 0;
        }
        return set;
    }

    public int reached() {
        int set = 0;
        for (int s = 0; s < ends.size(); s++) {
            set += distance(s) >= 0 ? 1 << s : 0;
        }
        return set;
    }

    public int distance(int state) {
        state(state);
        List<Integer> queue = new ArrayList<>();
        List<Integer> far = new ArrayList<>();
        queue.add(0);
        far.add(0);
        for (int i = 0; i < queue.size(); i++) {
            if (queue.get(i) == state) {
                return far.get(i);
            }
            for (int to : ends.get(queue.get(i))) {
                if (to >= 0 && !queue.contains(to)) {
                    queue.add(to);
                    far.add(far.get(i) + 1);
                }
            }
        }
        return -1;
    }

    public int crossing(int set, int label) {
        set(set);
        label(label);
        boolean not = true;
        boolean some = false;
        boolean into = true;
        boolean outOf = true;
        for (int s = 0; s < ends.size(); s++) {
            int to = ends.get(s)[label];
            if (to >= 0) {
                some = true;
                not &= in(set, s) == in(set, to);
                into &= !in(set, s) && in(set, to);
                outOf &= in(set, s) && !in(set, to);
            }
        }
        return not ? 0 : some && into ? 1 : some && outOf ? 2 : 3;
    }

    public boolean isRegion(int set) {
        set(set);
        boolean region = set != 0 && set != (1 << ends.size()) - 1;
        for (int l = 0; l < 6 && region; l++) {
            region = crossing(set, l) != 3;
        }
        return region;
    }

    private List<Integer> regions() {
        if (knownRegions == null) {
            knownRegions = new ArrayList<>();
            for (int set = 0; set < 1 << ends.size(); set++) {
                if (isRegion(set)) {
                    knownRegions.add(set);
                }
            }
        }
        return knownRegions;
    }

    public int regionCount() {
        return regions().size();
    }

    public int region(int region) {
        if (region < 0 || region >= regionCount()) {
            throw new IndexOutOfBoundsException();
        }
        return regions().get(region);
    }

    public boolean isLeast(int region) {
        int set = region(region);
        for (int other : regions()) {
            if (other != set && (other | set) == set) {
                return false;
            }
        }
        return true;
    }

    public int grow(int set) {
        set(set);
        int now = set;
        while (true) {
            int label = 0;
            while (label < 6 && crossing(now, label) != 3) {
                label++;
            }
            if (label == 6) {
                return now;
            }
            now |= addition(now, label);
        }
    }

    private int addition(int set, int label) {
        int begins = 0;
        int stops = 0;
        for (int s = 0; s < ends.size(); s++) {
            int to = ends.get(s)[label];
            if (to >= 0) {
                begins |= 1 << s;
                stops |= 1 << to;
            }
        }
        if ((begins & set) != 0 && (stops & set) == 0) {
            return begins;
        }
        return (stops | set) == set ? begins : stops;
    }

    public int apart(int a, int b) {
        state(a);
        state(b);
        for (int i = 0; i < regionCount(); i++) {
            if (in(region(i), a) ^ in(region(i), b)) {
                return i;
            }
        }
        return -1;
    }

    public int preventer(int state, int label) {
        state(state);
        label(label);
        if (target(state, label) >= 0) {
            return -2;
        }
        for (int i = 0; i < regionCount(); i++) {
            int way = crossing(region(i), label);
            if (way == 2 && !in(region(i), state) || way == 1 && in(region(i), state)) {
                return i;
            }
        }
        return -1;
    }

    private boolean elsewhere(int state, int label) {
        boolean steps = false;
        for (int[] s : ends) {
            steps |= s[label] >= 0;
        }
        return steps && target(state, label) < 0;
    }

    public int lumps() {
        return lumpsOf()[0];
    }

    private int[] lumpsOf() {
        int[] counts = new int[2];
        for (int a = 0; a < ends.size(); a++) {
            for (int b = 0; b < a; b++) {
                counts[0] += apart(a, b) < 0 ? 1 : 0;
                counts[1]++;
            }
        }
        return counts;
    }

    public int leaks() {
        return leaksOf()[0];
    }

    private int[] leaksOf() {
        int[] counts = new int[2];
        for (int s = 0; s < ends.size(); s++) {
            for (int l = 0; l < 6; l++) {
                if (elsewhere(s, l)) {
                    counts[0] += preventer(s, l) == -1 ? 1 : 0;
                    counts[1]++;
                }
            }
        }
        return counts;
    }

    public double fidelity() {
        double all = lumpsOf()[1] + leaksOf()[1];
        return all == 0 ? 1 : 1 - (lumps() + leaks()) / all;
    }

    private List<Integer> places() {
        List<Integer> places = new ArrayList<>();
        for (int i = 0; i < regionCount() && places.size() < 30; i++) {
            if (isLeast(i)) {
                places.add(region(i));
            }
        }
        return places;
    }

    public int makeNet() {
        net = true;
        present = firstMarking();
        return places().size();
    }

    private int firstMarking() {
        int first = 0;
        List<Integer> places = places();
        for (int p = 0; p < places.size(); p++) {
            first += in(places.get(p), 0) ? 1 << p : 0;
        }
        return first;
    }

    public boolean hasNet() {
        return net;
    }

    public int placeRegion(int place) {
        net();
        if (place < 0 || place >= places().size()) {
            throw new IndexOutOfBoundsException();
        }
        return places().get(place);
    }

    private int crossed(int label, int way) {
        int set = 0;
        List<Integer> places = places();
        for (int p = 0; p < places.size(); p++) {
            set += crossing(places.get(p), label) == way ? 1 << p : 0;
        }
        return set;
    }

    public int consumed(int label) {
        net();
        label(label);
        return crossed(label, 2);
    }

    public int produced(int label) {
        net();
        label(label);
        return crossed(label, 1);
    }

    public int marking() {
        net();
        return present;
    }

    private int behind(int marking, int label) {
        boolean steps = false;
        for (int[] s : ends) {
            steps |= s[label] >= 0;
        }
        int from = crossed(label, 2);
        int into = crossed(label, 1);
        boolean can = steps && (marking | from) == marking && (marking & into) == 0;
        return can ? marking - from + into : -1;
    }

    public int fire(int label) {
        net();
        label(label);
        int next = behind(present, label);
        present = next < 0 ? present : next;
        return next;
    }

    private List<Integer> markings() {
        if (knownMarkings == null) {
            knownMarkings = new ArrayList<>();
            knownMarkings.add(firstMarking());
            for (int i = 0; i < knownMarkings.size(); i++) {
                for (int l = 0; l < 6; l++) {
                    int next = behind(knownMarkings.get(i), l);
                    if (next >= 0 && !knownMarkings.contains(next) && knownMarkings.size() < 200) {
                        knownMarkings.add(next);
                    }
                }
            }
        }
        return knownMarkings;
    }

    public int markingCount() {
        net();
        return markings().size();
    }

    public int markingAt(int number) {
        net();
        if (number < 0 || number >= markings().size()) {
            throw new IndexOutOfBoundsException();
        }
        return markings().get(number);
    }

    // The first state has the first marking, and each step forces the next one: so there is at
    // most one way to give markings, and it is tried.
    public boolean isFaithful() {
        net();
        Integer[] given = new Integer[ends.size()];
        List<Integer> queue = new ArrayList<>();
        given[0] = markings().get(0);
        queue.add(0);
        for (int i = 0; i < queue.size(); i++) {
            int s = queue.get(i);
            for (int l = 0; l < 6; l++) {
                int to = target(s, l);
                int next = behind(given[s], l);
                if (to < 0 != next < 0) {
                    return false;
                }
                if (to >= 0 && given[to] == null) {
                    given[to] = next;
                    queue.add(to);
                }
                if (to >= 0 && given[to].intValue() != next) {
                    return false;
                }
            }
        }
        HashSet<Integer> used = new HashSet<>();
        for (int s : queue) {
            used.add(given[s]);
        }
        return used.size() == queue.size() && used.equals(new HashSet<>(markings()));
    }

    public long digest() {
        long d = 31L * 151 + ends.size();
        for (int[] s : ends) {
            for (int to : s) {
                d = d * 31 + to;
            }
        }
        d = d * 31 + regionCount();
        for (int set : regions()) {
            d = d * 31 + set;
        }
        return net ? (d * 31 + places().size()) * 31 + present : d;
    }
}
