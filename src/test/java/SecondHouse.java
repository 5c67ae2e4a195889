import java.util.ArrayList;
import java.util.Arrays;
import java.util.List;
import java.util.TreeMap;
import java.util.TreeSet;

/**
 * The house once more, from the document's words alone, with maps and lists of numbers where CountHouse
 * has rows and objects. TwoHousesTest compares the answers of both.
 */
final class SecondHouse {
    private static final int NONE = -1;
    private static final int HOME = 0;
    private static final int REGISTER = 1;
    private static final int MARKS = 6;

    private static final class Office {
        final TreeMap<Integer, Integer> version = new TreeMap<>();
        final TreeMap<Integer, Integer> through = new TreeMap<>();
        final TreeSet<Integer> ownWaiting = new TreeSet<>();
        /** By children: changes, each a precinct and a version. */
        final TreeMap<Integer, List<int[]>> waiting = new TreeMap<>();
        final List<int[]> line = new ArrayList<>();
        int parent = NONE;
        int epoch = 0;
        int taken = 0;
        boolean up = true;
    }

    private final List<Office> offices = new ArrayList<>();
    private final TreeMap<Integer, int[]> precincts = new TreeMap<>();
    /** By precincts and versions: the votes for options 0 .. 5, then the marks. */
    private final TreeMap<Integer, TreeMap<Integer, int[]>> versions = new TreeMap<>();
    /** Each an office, an epoch, a number, a precinct and a version. */
    private final List<int[]> letters = new ArrayList<>();
    private int[] draft = new int[6];
    private int hangings = 0;
    private int failures = 0;

    public SecondHouse() {
        for (int o = 0; o < 12; o++) {
            offices.add(new Office());
        }
    }

    public void precinct(int p, int home, int register) {
        index(isIn(p, 0, 39) && isIn(home, 0, 11));
        argument(isIn(register, 0, 10000000));
        state(!precincts.containsKey(p));
        precincts.put(p, new int[] {home, register});
        versions.put(p, new TreeMap<>());
    }

    public int votes(int option, int n) {
        index(isIn(option, 0, 5));
        argument(isIn(n, 0, 10000000));
        int was = draft[option];
        draft[option] = n;
        return was;
    }

    public int version(int p, int v, int invalid, int ballots) {
        index(precincts.containsKey(p));
        argument(v > newest(p) && isIn(invalid, 0, 10000000) && isIn(ballots, 0, 10000000));
        limit(versions.values().stream().mapToInt(TreeMap::size).sum() < 300);
        int[] row = Arrays.copyOf(draft, 7);
        row[MARKS] = marks(p, invalid, ballots);
        versions.get(p).put(v, row);
        draft = new int[6];
        ownComes(p);
        return row[MARKS];
    }

    private int marks(int p, int invalid, int ballots) {
        boolean less = false;
        if (newest(p) > 0) {
            int[] before = versions.get(p).lastEntry().getValue();
            for (int option = 0; option < 6; option++) {
                less |= draft[option] < before[option];
            }
        }
        long together = Arrays.stream(draft).asLongStream().sum() + invalid;
        return (ballots > precincts.get(p)[REGISTER] ? 1 : 0) + (less ? 2 : 0) + (together > ballots ? 4 : 0);
    }

    public int hang(int office, int parent) {
        index(isIn(office, 0, 11) && isIn(parent, 0, 11));
        argument(office != 0 && office != parent);
        state(offices.get(office).up && offices.get(parent).up && !below(office).contains(parent));
        limit(hangings < 60);
        hangings++;
        takeAway(office);
        Office one = offices.get(office);
        one.parent = parent;
        one.epoch++;
        one.version.forEach((p, v) -> change(office, p, v));
        return one.epoch;
    }

    public int fail(int office) {
        index(isIn(office, 0, 11));
        state(offices.get(office).up);
        limit(failures < 30);
        failures++;
        takeAway(office);
        List<Integer> children = children(office);
        for (int child : children) {
            hangsNowhere(offices.get(child));
        }
        Office epochKept = new Office();
        epochKept.epoch = offices.get(office).epoch;
        epochKept.up = false;
        offices.set(office, epochKept);
        return children.size();
    }

    public int revive(int office) {
        index(isIn(office, 0, 11));
        state(!offices.get(office).up);
        offices.get(office).up = true;
        for (int p : precincts.keySet()) {
            if (precincts.get(p)[HOME] == office && newest(p) > 0) {
                ownComes(p);
            }
        }
        return offices.get(office).version.size();
    }

    public boolean move(int p, int office) {
        index(precincts.containsKey(p) && isIn(office, 0, 11));
        int old = precincts.get(p)[HOME];
        state(old != office);
        precincts.get(p)[HOME] = office;
        if (offices.get(old).up) {
            boolean waited = offices.get(old).ownWaiting.remove(p);
            boolean was = through(old, p) == old;
            if (was) {
                notIncludedAnyMore(old, p);
            }
            if (was || waited) {
                trying(old);
            }
        }
        if (newest(p) > 0) {
            ownComes(p);
        }
        return through(office, p) == office;
    }

    public boolean deliver(int i) {
        index(isIn(i, 0, letters.size() - 1));
        int[] letter = letters.remove(i);
        Office sender = offices.get(letter[0]);
        boolean takes = letter[1] == sender.epoch && sender.parent != NONE && letter[2] == sender.taken + 1;
        if (takes) {
            sender.taken++;
            if (letter[4] == 0) {
                taken0(sender.parent, letter[0], letter[3]);
            } else {
                takenVersion(sender.parent, letter[0], letter[3], letter[4]);
            }
        }
        return takes;
    }

    private void taken0(int parent, int child, int p) {
        boolean waited = waitingFrom(parent, child).removeIf(change -> change[0] == p);
        boolean was = through(parent, p) == child;
        if (was) {
            notIncludedAnyMore(parent, p);
        }
        if (was || waited) {
            trying(parent);
        }
    }

    private void takenVersion(int parent, int child, int p, int v) {
        if (waitingFrom(parent, child).isEmpty() && isFreeFor(parent, p, child)) {
            includes(parent, p, v, child);
        } else {
            waitingFrom(parent, child).add(new int[] {p, v});
        }
    }

    public int drop(int i) {
        index(isIn(i, 0, letters.size() - 1));
        letters.remove(i);
        return letters.size();
    }

    public int twin(int i) {
        index(isIn(i, 0, letters.size() - 1));
        state(letters.size() < 500);
        letters.add(letters.get(i).clone());
        return letters.size();
    }

    public int resend(int office) {
        index(isIn(office, 0, 11));
        Office sender = offices.get(office);
        state(sender.parent != NONE);
        int made = 0;
        for (int number = sender.taken + 1; number <= sender.line.size() && letters.size() < 500; number++) {
            send(office, number);
            made++;
        }
        return made;
    }

    public int letters() {
        return letters.size();
    }

    public int letter(int i, int what) {
        index(isIn(i, 0, letters.size() - 1));
        argument(isIn(what, 0, 4));
        return letters.get(i)[what];
    }

    public long sum(int office, int option) {
        index(isIn(office, 0, 11) && isIn(option, 0, 5));
        long sum = 0;
        for (int p : offices.get(office).version.keySet()) {
            sum += shown(office, p)[option];
        }
        return sum;
    }

    public int included(int office, int p) {
        index(isIn(office, 0, 11) && isIn(p, 0, 39));
        return offices.get(office).version.getOrDefault(p, 0);
    }

    public int through(int office, int p) {
        index(isIn(office, 0, 11) && isIn(p, 0, 39));
        return offices.get(office).through.getOrDefault(p, NONE);
    }

    public long held(int office, int child, int option) {
        index(isIn(office, 0, 11) && isIn(child, 0, 11) && isIn(option, 0, 5));
        long sum = 0;
        for (int p : offices.get(office).version.keySet()) {
            sum += child != office && through(office, p) == child ? shown(office, p)[option] : 0;
        }
        return sum;
    }

    public int marked(int office) {
        index(isIn(office, 0, 11));
        int marked = 0;
        for (int p : offices.get(office).version.keySet()) {
            marked += shown(office, p)[MARKS] > 0 ? 1 : 0;
        }
        return marked;
    }

    public int office(int office, int what) {
        index(isIn(office, 0, 11));
        argument(isIn(what, 0, 7));
        Office one = offices.get(office);
        int[] all = {one.parent, one.epoch, one.up ? 1 : 0, children(office).size(), waits(one),
            one.line.size(), one.taken, one.version.size()};
        return all[what];
    }

    public int newest(int p) {
        index(isIn(p, 0, 39));
        if (!precincts.containsKey(p)) {
            return NONE;
        }
        return versions.get(p).isEmpty() ? 0 : versions.get(p).lastKey();
    }

    public int seats(int office, int n, int rule, int option) {
        index(isIn(office, 0, 11) && isIn(option, 0, 5));
        argument(isIn(n, 1, 1000) && isIn(rule, 0, 2));
        long all = 0;
        for (int o = 0; o < 6; o++) {
            all += sum(office, o);
        }
        if (all == 0) {
            return 0;
        }
        return rule == 2 ? seatsByRests(office, n, option, all) : seatsByQuotients(office, n, rule, option);
    }

    /** All quotients that could win a seat, the greatest first: the first n of them do. */
    private int seatsByQuotients(int office, int n, int rule, int option) {
        List<long[]> quotients = new ArrayList<>();
        for (int o = 0; o < 6; o++) {
            long sum = sum(office, o);
            for (int has = 0; has < n; has++) {
                quotients.add(new long[] {o, sum, rule == 0 ? has + 1 : 2 * has + 1});
            }
        }
        // Sorting keeps the order of equal ones, which is that of the options.
        quotients.sort((a, b) -> Long.compare(b[1] * a[2], a[1] * b[2]));
        return (int) quotients.stream().limit(n).filter(q -> q[0] == option).count();
    }

    private int seatsByRests(int office, int n, int option, long all) {
        List<Integer> byRests = new ArrayList<>(List.of(0, 1, 2, 3, 4, 5));
        byRests.sort((a, b) -> Long.compare(n * sum(office, b) % all, n * sum(office, a) % all));
        long left = n;
        for (int o = 0; o < 6; o++) {
            left -= n * sum(office, o) / all;
        }
        return (int) (n * sum(office, option) / all) + (byRests.indexOf(option) < left ? 1 : 0);
    }

    public boolean isAtRest() {
        return letters.isEmpty()
                && offices.stream().allMatch(one -> one.taken == one.line.size() && waits(one) == 0);
    }

    public int astray() {
        int astray = 0;
        for (int o = 0; o < 12; o++) {
            List<Integer> parts = children(o);
            parts.add(o);
            astray += parts.containsAll(offices.get(o).through.values()) ? 0 : 1;
        }
        return astray;
    }

    private void ownComes(int p) {
        int home = precincts.get(p)[HOME];
        if (!offices.get(home).up) {
            return;
        }
        if (isFreeFor(home, p, home)) {
            includes(home, p, newest(p), home);
        } else {
            offices.get(home).ownWaiting.add(p);
        }
    }

    private void trying(int office) {
        boolean goes = true;
        while (goes) {
            goes = false;
            for (int p : new ArrayList<>(offices.get(office).ownWaiting)) {
                if (isFreeFor(office, p, office)) {
                    offices.get(office).ownWaiting.remove(p);
                    includes(office, p, newest(p), office);
                    goes = true;
                }
            }
            for (int child : children(office)) {
                List<int[]> waiting = waitingFrom(office, child);
                while (!waiting.isEmpty() && isFreeFor(office, waiting.get(0)[0], child)) {
                    int[] first = waiting.remove(0);
                    includes(office, first[0], first[1], child);
                    goes = true;
                }
            }
        }
    }

    private void takeAway(int child) {
        int parent = offices.get(child).parent;
        if (parent == NONE) {
            return;
        }
        for (int p = 0; p < 40; p++) {
            if (through(parent, p) == child) {
                notIncludedAnyMore(parent, p);
            }
        }
        offices.get(parent).waiting.remove(child);
        hangsNowhere(offices.get(child));
        trying(parent);
    }

    private static void hangsNowhere(Office office) {
        office.parent = NONE;
        office.line.clear();
        office.taken = 0;
    }

    private boolean isFreeFor(int office, int p, int from) {
        return through(office, p) == NONE || through(office, p) == from;
    }

    private void includes(int office, int p, int v, int from) {
        offices.get(office).version.put(p, v);
        offices.get(office).through.put(p, from);
        change(office, p, v);
    }

    private void notIncludedAnyMore(int office, int p) {
        offices.get(office).version.remove(p);
        offices.get(office).through.remove(p);
        change(office, p, 0);
    }

    private void change(int office, int p, int v) {
        Office one = offices.get(office);
        if (one.parent != NONE) {
            one.line.add(new int[] {p, v});
            send(office, one.line.size());
        }
    }

    private void send(int office, int number) {
        int[] change = offices.get(office).line.get(number - 1);
        if (letters.size() < 500) {
            letters.add(new int[] {office, offices.get(office).epoch, number, change[0], change[1]});
        }
    }

    private List<int[]> waitingFrom(int office, int child) {
        return offices.get(office).waiting.computeIfAbsent(child, c -> new ArrayList<>());
    }

    private static int waits(Office office) {
        return office.ownWaiting.size() + office.waiting.values().stream().mapToInt(List::size).sum();
    }

    private int[] shown(int office, int p) {
        return versions.get(p).get(included(office, p));
    }

    private List<Integer> children(int office) {
        List<Integer> children = new ArrayList<>();
        for (int o = 0; o < 12; o++) {
            if (offices.get(o).parent == office) {
                children.add(o);
            }
        }
        return children;
    }

    private List<Integer> below(int office) {
        List<Integer> below = children(office);
        for (int child : children(office)) {
            below.addAll(below(child));
        }
        return below;
    }

    private static boolean isIn(int n, int least, int most) {
        return least <= n && n <= most;
    }

    private static void index(boolean fits) {
        if (!fits) {
            throw new IndexOutOfBoundsException();
        }
    }

    private static void argument(boolean fits) {
        if (!fits) {
            throw new IllegalArgumentException();
        }
    }

    private static void state(boolean fits) {
        if (!fits) {
            throw new IllegalStateException();
        }
    }

    private static void limit(boolean fits) {
        if (!fits) {
            throw new UnsupportedOperationException();
        }
    }
}
