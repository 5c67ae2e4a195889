import java.util.ArrayList;
import java.util.Arrays;

/** The night of a count; ../shared/DOC.md tells what each call does. */
public final class CountHouse {
    public static final int NONE = -1;

    private static final int OFFICES = 12;
    private static final int PRECINCTS = 40;
    private static final int OPTIONS = 6;
    private static final int MOST_COUNT = 10000000;
    private static final int MOST_VERSIONS = 300;
    private static final int MOST_HANGINGS = 60;
    private static final int MOST_FAILURES = 30;
    private static final int MOST_LETTERS = 500;
    private static final int MOST_SEATS = 1000;

    private static final int MORE_BALLOTS_THAN_REGISTER = 1;
    private static final int LESS_THAN_BEFORE = 2;
    private static final int MORE_VOTES_THAN_BALLOTS = 4;

    private static final class Version {
        final int number;
        final int[] votes;
        final int marks;

        Version(int number, int[] votes, int marks) {
            this.number = number;
            this.votes = votes;
            this.marks = marks;
        }
    }

    private static final class Precinct {
        final int register;
        int home;
        Version last;

        Precinct(int home, int register) {
            this.home = home;
            this.register = register;
        }
    }

    /** What an office came to include of a precinct: a version, or null for none. */
    private static final class Change {
        final int ofPrecinct;
        final Version now;

        Change(int ofPrecinct, Version now) {
            this.ofPrecinct = ofPrecinct;
            this.now = now;
        }
    }

    /** It carries its change itself, for it outlives the line that the change stood in. */
    private static final class Letter {
        final int sender;
        final int epoch;
        final int number;
        final Change change;

        Letter(int sender, int epoch, int number, Change change) {
            this.sender = sender;
            this.epoch = epoch;
            this.number = number;
            this.change = change;
        }
    }

    private static final class Office {
        final int number;
        /** By precincts: what is included, or null. */
        final Version[] shown = new Version[PRECINCTS];
        /** By precincts: through whom; this office's own number for its own ones. */
        final int[] source = new int[PRECINCTS];
        /** By precincts: whether the newest one waits as own one; which it is, the precinct knows. */
        final boolean[] ownWaits = new boolean[PRECINCTS];
        final ArrayList<Change> line = new ArrayList<>();
        /** What waits from this office at its parent; kept here, for there is one parent at most. */
        final ArrayList<Change> waiting = new ArrayList<>();
        int parent = NONE;
        int epoch;
        int taken;
        boolean up = true;

        Office(int number) {
            this.number = number;
            Arrays.fill(source, NONE);
        }

        boolean admits(int p, int from) {
            return source[p] == NONE || source[p] == from;
        }

        void leaveParent() {
            parent = NONE;
            line.clear();
            taken = 0;
            waiting.clear();
        }

        void forgetAll() {
            for (int p = 0; p < PRECINCTS; p++) {
                shown[p] = null;
                source[p] = NONE;
                ownWaits[p] = false;
            }
        }

        int ownWaitingCount() {
            int count = 0;
            for (int p = 0; p < PRECINCTS; p++) {
                if (ownWaits[p]) {
                    count++;
                }
            }
            return count;
        }

        int shownCount() {
            int count = 0;
            for (int p = 0; p < PRECINCTS; p++) {
                if (shown[p] != null) {
                    count++;
                }
            }
            return count;
        }

        long shownSum(int option) {
            long total = 0;
            for (int p = 0; p < PRECINCTS; p++) {
                Version version = shown[p];
                if (version != null) {
                    total += version.votes[option];
                }
            }
            return total;
        }

        long sumThrough(int from, int option) {
            long total = 0;
            for (int p = 0; p < PRECINCTS; p++) {
                Version version = shown[p];
                if (version != null && source[p] == from) {
                    total += version.votes[option];
                }
            }
            return total;
        }
    }

    private final Precinct[] precincts = new Precinct[PRECINCTS];
    private final Office[] offices = new Office[OFFICES];
    private final ArrayList<Letter> post = new ArrayList<>();
    private final int[] draft = new int[OPTIONS];
    private final long[] sumRow = new long[OPTIONS];
    private final long[] restRow = new long[OPTIONS];
    private final int[] seatRow = new int[OPTIONS];
    private int versionCount;
    private int hangingCount;
    private int failureCount;

    public CountHouse() {
        for (int o = 0; o < OFFICES; o++) {
            offices[o] = new Office(o);
        }
    }

    public void precinct(int p, int home, int register)
            throws IndexOutOfBoundsException, IllegalArgumentException, IllegalStateException {
        requirePrecinctNumber(p);
        requireOffice(home);
        requireCount(register);
        if (precincts[p] != null) {
            throw new IllegalStateException("the precinct is there already");
        }
        precincts[p] = new Precinct(home, register);
    }

    public int votes(int option, int n) throws IndexOutOfBoundsException, IllegalArgumentException {
        requireOption(option);
        requireCount(n);
        int before = draft[option];
        draft[option] = n;
        return before;
    }

    public int version(int p, int v, int invalid, int ballots)
            throws IndexOutOfBoundsException, IllegalArgumentException, UnsupportedOperationException {
        Precinct precinct = precinctThatIsThere(p);
        if (v <= newestNumber(precinct)) {
            throw new IllegalArgumentException("the version is not above the newest");
        }
        requireCount(invalid);
        requireCount(ballots);
        if (versionCount >= MOST_VERSIONS) {
            throw new UnsupportedOperationException("no more versions");
        }
        int marks = marksOfDraft(precinct, invalid, ballots);
        precinct.last = new Version(v, draft.clone(), marks);
        versionCount++;
        Arrays.fill(draft, 0);
        offerOwn(p, precinct);
        return marks;
    }

    public int hang(int office, int parent)
            throws IndexOutOfBoundsException, IllegalArgumentException, IllegalStateException,
                    UnsupportedOperationException {
        requireOffice(office);
        requireOffice(parent);
        if (office == 0 || office == parent) {
            throw new IllegalArgumentException("this office cannot hang there");
        }
        Office below = offices[office];
        if (!below.up || !offices[parent].up || isInTreeOf(office, parent)) {
            throw new IllegalStateException("down, or the other one is below it");
        }
        if (hangingCount >= MOST_HANGINGS) {
            throw new UnsupportedOperationException("no more hangings");
        }
        hangingCount++;
        takeAway(below);
        below.parent = parent;
        below.epoch++;
        for (int p = 0; p < PRECINCTS; p++) {
            if (below.shown[p] != null) {
                tellParent(below, p);
            }
        }
        return below.epoch;
    }

    public int fail(int office)
            throws IndexOutOfBoundsException, IllegalStateException, UnsupportedOperationException {
        requireOffice(office);
        Office failing = offices[office];
        if (!failing.up) {
            throw new IllegalStateException("the office is down");
        }
        if (failureCount >= MOST_FAILURES) {
            throw new UnsupportedOperationException("no more failures");
        }
        failureCount++;
        takeAway(failing);
        int children = 0;
        for (int c = 0; c < OFFICES; c++) {
            if (offices[c].parent == office) {
                offices[c].leaveParent();
                children++;
            }
        }
        failing.forgetAll();
        failing.up = false;
        return children;
    }

    public int revive(int office) throws IndexOutOfBoundsException, IllegalStateException {
        requireOffice(office);
        Office reviving = offices[office];
        if (reviving.up) {
            throw new IllegalStateException("the office is up");
        }
        reviving.up = true;
        int count = 0;
        for (int p = 0; p < PRECINCTS; p++) {
            Precinct precinct = precincts[p];
            if (precinct != null && precinct.home == office && precinct.last != null) {
                include(reviving, p, precinct.last, office);
                count++;
            }
        }
        return count;
    }

    public boolean move(int p, int office) throws IndexOutOfBoundsException, IllegalStateException {
        Precinct precinct = precinctThatIsThere(p);
        requireOffice(office);
        if (precinct.home == office) {
            throw new IllegalStateException("it is its home already");
        }
        giveUpOwn(offices[precinct.home], p);
        precinct.home = office;
        if (precinct.last != null) {
            offerOwn(p, precinct);
        }
        return offices[office].source[p] == office;
    }

    public boolean deliver(int i) throws IndexOutOfBoundsException {
        requireLetter(i);
        Letter letter = post.get(i);
        // Gone before it is read: what the parent tells further has its place among the 500.
        post.remove(i);
        Office sender = offices[letter.sender];
        if (sender.parent == NONE || sender.epoch != letter.epoch || sender.taken + 1 != letter.number) {
            return false;
        }
        sender.taken++;
        Office at = offices[sender.parent];
        if (letter.change.now == null) {
            takeBack(at, sender, letter.change.ofPrecinct);
        } else {
            takeIn(at, sender, letter.change);
        }
        return true;
    }

    public int drop(int i) throws IndexOutOfBoundsException {
        requireLetter(i);
        post.remove(i);
        return post.size();
    }

    public int twin(int i) throws IndexOutOfBoundsException, IllegalStateException {
        requireLetter(i);
        if (post.size() >= MOST_LETTERS) {
            throw new IllegalStateException("no more letters");
        }
        post.add(post.get(i));
        return post.size();
    }

    public int resend(int office) throws IndexOutOfBoundsException, IllegalStateException {
        requireOffice(office);
        Office sender = offices[office];
        if (sender.parent == NONE) {
            throw new IllegalStateException("the office hangs nowhere");
        }
        int before = post.size();
        for (int number = sender.taken + 1; number <= sender.line.size(); number++) {
            sendLetter(sender, number, sender.line.get(number - 1));
        }
        return post.size() - before;
    }

    public int letters() {
        return post.size();
    }

    public int letter(int i, int what) throws IndexOutOfBoundsException, IllegalArgumentException {
        requireLetter(i);
        Letter letter = post.get(i);
        switch (what) {
            case 0:
                return letter.sender;
            case 1:
                return letter.epoch;
            case 2:
                return letter.number;
            case 3:
                return letter.change.ofPrecinct;
            case 4:
                return numberOf(letter.change.now);
            default:
                throw new IllegalArgumentException("nothing of a letter");
        }
    }

    public long sum(int office, int option) throws IndexOutOfBoundsException {
        requireOffice(office);
        requireOption(option);
        return offices[office].shownSum(option);
    }

    public int included(int office, int p) throws IndexOutOfBoundsException {
        requireOffice(office);
        requirePrecinctNumber(p);
        return numberOf(offices[office].shown[p]);
    }

    public int through(int office, int p) throws IndexOutOfBoundsException {
        requireOffice(office);
        requirePrecinctNumber(p);
        return offices[office].source[p];
    }

    public long held(int office, int child, int option) throws IndexOutOfBoundsException {
        requireOffice(office);
        requireOffice(child);
        requireOption(option);
        // An office's own ones bear its own number as source, but it is no child of itself.
        if (offices[child].parent != office) {
            return 0;
        }
        return offices[office].sumThrough(child, option);
    }

    public int marked(int office) throws IndexOutOfBoundsException {
        requireOffice(office);
        int count = 0;
        for (int p = 0; p < PRECINCTS; p++) {
            Version version = offices[office].shown[p];
            if (version != null && version.marks != 0) {
                count++;
            }
        }
        return count;
    }

    public int office(int office, int what) throws IndexOutOfBoundsException, IllegalArgumentException {
        requireOffice(office);
        Office asked = offices[office];
        switch (what) {
            case 0:
                return asked.parent;
            case 1:
                return asked.epoch;
            case 2:
                return asked.up ? 1 : 0;
            case 3:
                return childCount(office);
            case 4:
                return waitingCount(asked);
            case 5:
                return asked.line.size();
            case 6:
                return asked.taken;
            case 7:
                return asked.shownCount();
            default:
                throw new IllegalArgumentException("nothing of an office");
        }
    }

    public int newest(int p) throws IndexOutOfBoundsException {
        requirePrecinctNumber(p);
        Precinct precinct = precincts[p];
        return precinct == null ? NONE : newestNumber(precinct);
    }

    public int seats(int office, int n, int rule, int option)
            throws IndexOutOfBoundsException, IllegalArgumentException {
        requireOffice(office);
        requireOption(option);
        if (n < 1 || n > MOST_SEATS) {
            throw new IllegalArgumentException("not 1 .. 1000 seats");
        }
        if (rule < 0 || rule > 2) {
            throw new IllegalArgumentException("no such rule");
        }
        long all = 0;
        for (int o = 0; o < OPTIONS; o++) {
            sumRow[o] = offices[office].shownSum(o);
            all += sumRow[o];
        }
        if (all <= 0) {
            return 0;
        }
        if (rule == 2) {
            shareByRests(n, all);
        } else {
            shareByDivisors(n, rule + 1);
        }
        return seatRow[option];
    }

    public boolean isAtRest() {
        if (!post.isEmpty()) {
            return false;
        }
        for (int o = 0; o < OFFICES; o++) {
            Office office = offices[o];
            if (office.taken != office.line.size() || waitingCount(office) != 0) {
                return false;
            }
        }
        return true;
    }

    public int astray() {
        int count = 0;
        for (int o = 0; o < OFFICES; o++) {
            if (hasStrayVersion(offices[o]) || hasStraySum(offices[o])) {
                count++;
            }
        }
        return count;
    }

    private static void requireCount(int n) {
        if (n < 0 || n > MOST_COUNT) {
            throw new IllegalArgumentException("not 0 .. 10000000");
        }
    }

    private static void requireOffice(int office) {
        if (office < 0 || office >= OFFICES) {
            throw new IndexOutOfBoundsException("no such office");
        }
    }

    private static void requireOption(int option) {
        if (option < 0 || option >= OPTIONS) {
            throw new IndexOutOfBoundsException("no such option");
        }
    }

    private static void requirePrecinctNumber(int p) {
        if (p < 0 || p >= PRECINCTS) {
            throw new IndexOutOfBoundsException("no such precinct");
        }
    }

    private Precinct precinctThatIsThere(int p) {
        requirePrecinctNumber(p);
        Precinct precinct = precincts[p];
        if (precinct == null) {
            throw new IndexOutOfBoundsException("the precinct is not there yet");
        }
        return precinct;
    }

    private void requireLetter(int i) {
        if (i < 0 || i >= post.size()) {
            throw new IndexOutOfBoundsException("no such letter");
        }
    }

    private static int numberOf(Version version) {
        return version == null ? 0 : version.number;
    }

    private static int newestNumber(Precinct precinct) {
        return numberOf(precinct.last);
    }

    private int marksOfDraft(Precinct precinct, int invalid, int ballots) {
        int marks = 0;
        int cast = invalid;
        Version before = precinct.last;
        for (int o = 0; o < OPTIONS; o++) {
            cast += draft[o];
            if (before != null && draft[o] < before.votes[o]) {
                marks |= LESS_THAN_BEFORE;
            }
        }
        if (ballots > precinct.register) {
            marks |= MORE_BALLOTS_THAN_REGISTER;
        }
        if (cast > ballots) {
            marks |= MORE_VOTES_THAN_BALLOTS;
        }
        return marks;
    }

    /** The newest version at its home: included as own, or it waits. */
    private void offerOwn(int p, Precinct precinct) {
        Office home = offices[precinct.home];
        if (!home.up) {
            return;
        }
        if (home.admits(p, home.number)) {
            include(home, p, precinct.last, home.number);
        } else {
            home.ownWaits[p] = true;
        }
    }

    private void giveUpOwn(Office home, int p) {
        home.ownWaits[p] = false;
        if (home.source[p] == home.number) {
            exclude(home, p);
        }
        tryWaiting(home);
    }

    private void include(Office at, int p, Version version, int from) {
        at.shown[p] = version;
        at.source[p] = from;
        tellParent(at, p);
    }

    private void exclude(Office at, int p) {
        at.shown[p] = null;
        at.source[p] = NONE;
        tellParent(at, p);
    }

    private void tellParent(Office at, int p) {
        if (at.parent != NONE) {
            Change change = new Change(p, at.shown[p]);
            at.line.add(change);
            sendLetter(at, at.line.size(), change);
        }
    }

    private void sendLetter(Office sender, int number, Change change) {
        if (post.size() < MOST_LETTERS) {
            post.add(new Letter(sender.number, sender.epoch, number, change));
        }
    }

    private void takeIn(Office at, Office child, Change change) {
        if (child.waiting.isEmpty() && at.admits(change.ofPrecinct, child.number)) {
            include(at, change.ofPrecinct, change.now, child.number);
        } else {
            child.waiting.add(change);
        }
    }

    private void takeBack(Office at, Office child, int p) {
        for (int i = child.waiting.size() - 1; i >= 0; i--) {
            if (child.waiting.get(i).ofPrecinct == p) {
                child.waiting.remove(i);
            }
        }
        if (at.source[p] == child.number) {
            exclude(at, p);
        }
        tryWaiting(at);
    }

    private void takeAway(Office child) {
        if (child.parent == NONE) {
            return;
        }
        Office above = offices[child.parent];
        for (int p = 0; p < PRECINCTS; p++) {
            if (above.source[p] == child.number) {
                exclude(above, p);
            }
        }
        child.leaveParent();
        tryWaiting(above);
    }

    /** Each round but the last makes something wait no more, so that there are few. */
    private void tryWaiting(Office at) {
        boolean goes = true;
        for (int left = waitingCount(at); goes && left > 0; left--) {
            goes = tryOwn(at);
            for (int c = 0; c < OFFICES; c++) {
                if (offices[c].parent == at.number && tryChild(at, offices[c])) {
                    goes = true;
                }
            }
        }
    }

    private boolean tryOwn(Office at) {
        boolean went = false;
        for (int p = 0; p < PRECINCTS; p++) {
            Precinct precinct = precincts[p];
            if (precinct != null && at.ownWaits[p] && at.admits(p, at.number)) {
                at.ownWaits[p] = false;
                include(at, p, precinct.last, at.number);
                went = true;
            }
        }
        return went;
    }

    private boolean tryChild(Office at, Office child) {
        boolean went = false;
        for (int left = child.waiting.size(); left > 0; left--) {
            Change first = child.waiting.get(0);
            if (!at.admits(first.ofPrecinct, child.number)) {
                return went;
            }
            child.waiting.remove(0);
            include(at, first.ofPrecinct, first.now, child.number);
            went = true;
        }
        return went;
    }

    /** Whether an office is the top one's, or the top one itself; the chain has an office once. */
    private boolean isInTreeOf(int top, int office) {
        int at = office;
        for (int steps = 0; steps < OFFICES && at != NONE; steps++) {
            if (at == top) {
                return true;
            }
            at = offices[at].parent;
        }
        return false;
    }

    private int childCount(int office) {
        int count = 0;
        for (int c = 0; c < OFFICES; c++) {
            if (offices[c].parent == office) {
                count++;
            }
        }
        return count;
    }

    private int waitingCount(Office at) {
        int count = at.ownWaitingCount();
        for (int c = 0; c < OFFICES; c++) {
            if (offices[c].parent == at.number) {
                count += offices[c].waiting.size();
            }
        }
        return count;
    }

    /** Seat by seat into seatRow; the divisor is step times the seats so far, and one more. */
    private void shareByDivisors(int n, int step) {
        Arrays.fill(seatRow, 0);
        for (int seat = 0; seat < n; seat++) {
            int best = 0;
            for (int o = 1; o < OPTIONS; o++) {
                // Crosswise products instead of quotients, which would be rounded.
                long mine = sumRow[o] * (step * seatRow[best] + 1);
                long its = sumRow[best] * (step * seatRow[o] + 1);
                if (mine > its) {
                    best = o;
                }
            }
            seatRow[best]++;
        }
    }

    private void shareByRests(int n, long all) {
        if (all <= 0) {
            return;
        }
        int left = n;
        for (int o = 0; o < OPTIONS; o++) {
            long part = n * sumRow[o];
            seatRow[o] = (int) (part / all);
            restRow[o] = part % all;
            left -= seatRow[o];
        }
        for (; left > 0; left--) {
            int best = 0;
            for (int o = 1; o < OPTIONS; o++) {
                if (restRow[o] > restRow[best]) {
                    best = o;
                }
            }
            seatRow[best]++;
            restRow[best] = -1;
        }
    }

    private boolean hasStrayVersion(Office at) {
        for (int p = 0; p < PRECINCTS; p++) {
            int from = at.source[p];
            if (from != NONE && from != at.number && offices[from].parent != at.number) {
                return true;
            }
        }
        return false;
    }

    private boolean hasStraySum(Office at) {
        for (int option = 0; option < OPTIONS; option++) {
            long parts = at.sumThrough(at.number, option);
            for (int c = 0; c < OFFICES; c++) {
                if (offices[c].parent == at.number) {
                    parts += at.sumThrough(c, option);
                }
            }
            if (parts != at.shownSum(option)) {
                return true;
            }
        }
        return false;
    }
}
