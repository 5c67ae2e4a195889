import java.util.ArrayList;
import java.util.Arrays;
import java.util.List;
import java.util.Random;

/**
 * Nights of calls drawn from fixed seeds. Each night is at most 512 calls long; what is asked at its
 * end belongs to them, so each question is put to a new object that has the same calls behind it.
 */
public final class NightsTest {
    private static final int NIGHTS = 600;
    private static final int MOST_CALLS = 512;
    private static final int OFFICES = 12;
    private static final int PRECINCTS = 40;
    private static final int OPTIONS = 6;
    private static final int VERSION = 2;
    private static final int MOVE = 6;
    private static final int DELIVER = 7;
    private static final int RESEND = 10;
    private static final int CALLS_OF_A_ROUND = 24;
    private static final int CALLS_OF_A_LOOK = 2 * OFFICES + 2 * PRECINCTS;
    private static final String[] NAMES = {"precinct", "votes", "version", "hang", "fail", "revive", "move",
        "deliver", "drop", "twin", "resend"};
    /** Which exceptions a call may throw: 1 index, 2 argument, 4 state, 8 limit. */
    private static final int[] MAY_THROW = {7, 3, 11, 15, 13, 5, 5, 1, 1, 5, 5};

    private static final Due due = new Due();

    private final Random random;
    private final int offices;
    private final int precincts;
    private final List<int[]> calls = new ArrayList<>();
    private final List<int[]> callsThatThrewNot = new ArrayList<>();
    /** By precincts: the votes of each version, and behind them its marks. */
    private final List<List<int[]>> versions = new ArrayList<>();
    private final int[] draft = new int[OPTIONS];
    private CountHouse house = new CountHouse();

    private NightsTest(int seed) {
        random = new Random(seed);
        offices = 3 + random.nextInt(OFFICES - 2);
        precincts = 1 + random.nextInt(seed % 2 == 0 ? 5 : PRECINCTS);
        for (int p = 0; p < PRECINCTS; p++) {
            versions.add(new ArrayList<>());
        }
    }

    public static void main(String[] args) {
        int settled = 0;
        for (int seed = 0; seed < NIGHTS; seed++) {
            due.part("night " + seed);
            NightsTest night = new NightsTest(seed);
            night.drawCalls(30 + seed % 100);
            night.lookAtAll();
            night.lookAtThrowing();
            if (night.settle()) {
                settled++;
            }
        }
        due.part("all nights");
        System.out.println(settled + " of " + NIGHTS + " nights came to rest");
        due.is("enough of them came to rest within 512 calls", settled > NIGHTS / 3, true);
        due.end();
    }

    private void drawCalls(int count) {
        for (int p = 0; p < precincts; p++) {
            make(0, p, random.nextInt(offices), 20 + random.nextInt(80), 0);
        }
        for (int i = 0; i < count; i++) {
            drawCall();
        }
    }

    private void drawCall() {
        int kind = random.nextInt(20);
        int p = wrongAtTimes(random.nextInt(precincts));
        int o = wrongAtTimes(random.nextInt(offices));
        int i = wrongAtTimes(random.nextInt(Math.max(1, house.letters())));
        if (kind < 3) {
            make(1, random.nextInt(OPTIONS), wrongAtTimes(random.nextInt(40)), 0, 0);
        } else if (kind < 6) {
            make(VERSION, p, 1 + random.nextInt(4) + newestOf(p), random.nextInt(9), random.nextInt(99));
        } else if (kind < 9) {
            make(3, o, random.nextInt(offices), 0, 0);
        } else if (kind < 11) {
            make(MOVE, p, o, 0, 0);
        } else if (kind < 16) {
            make(DELIVER, i, 0, 0, 0);
        } else if (kind < 19) {
            make(8 + random.nextInt(3), kind == 18 ? o : i, 0, 0, 0);
        } else {
            make(4 + random.nextInt(2), o, 0, 0, 0);
        }
    }

    private int wrongAtTimes(int right) {
        return random.nextInt(30) != 0 ? right : random.nextBoolean() ? -1 - right : right + 1000;
    }

    private int newestOf(int p) {
        return p < 0 || p >= PRECINCTS || random.nextInt(9) == 0 ? 0 : Math.max(0, house.newest(p));
    }

    private void make(int kind, int a, int b, int c, int d) {
        int[] call = {kind, a, b, c, d};
        calls.add(call);
        long answer;
        try {
            answer = answer(house, call);
        } catch (RuntimeException e) {
            due.is(NAMES[kind] + " may throw " + e.getClass().getName(), kindOf(e) & MAY_THROW[kind],
                    kindOf(e));
            return;
        }
        callsThatThrewNot.add(call);
        if (kind == 1) {
            draft[a] = b;
        }
        if (kind == VERSION) {
            keepVersion(a, b, (int) answer);
        }
    }

    private static int kindOf(RuntimeException e) {
        Class<?> c = e.getClass();
        return c == IndexOutOfBoundsException.class ? 1
                : c == IllegalArgumentException.class ? 2
                : c == IllegalStateException.class ? 4
                : c == UnsupportedOperationException.class ? 8 : 16;
    }

    private static long answer(CountHouse x, int[] call) {
        switch (call[0]) {
            case 0:
                x.precinct(call[1], call[2], call[3]);
                return 0;
            case 1:
                return x.votes(call[1], call[2]);
            case 2:
                return x.version(call[1], call[2], call[3], call[4]);
            case 3:
                return x.hang(call[1], call[2]);
            case 4:
                return x.fail(call[1]);
            case 5:
                return x.revive(call[1]);
            case 6:
                return x.move(call[1], call[2]) ? 1 : 0;
            case 7:
                return x.deliver(call[1]) ? 1 : 0;
            case 8:
                return x.drop(call[1]);
            case 9:
                return x.twin(call[1]);
            default:
                return x.resend(call[1]);
        }
    }

    private void keepVersion(int p, int v, int marks) {
        List<int[]> of = versions.get(p);
        while (of.size() <= v) {
            of.add(null);
        }
        int[] row = new int[OPTIONS + 1];
        System.arraycopy(draft, 0, row, 0, OPTIONS);
        row[OPTIONS] = marks;
        of.set(v, row);
        Arrays.fill(draft, 0);
    }

    private static CountHouse after(List<int[]> calls) {
        CountHouse x = new CountHouse();
        for (int[] call : calls) {
            try {
                answer(x, call);
            } catch (RuntimeException e) {
                // Looked at when the call was drawn.
            }
        }
        return x;
    }

    /** Each office shows sums of just what it includes, and all that it includes has a place there. */
    private void lookAtAll() {
        for (int o = 0; o < OFFICES; o++) {
            CountHouse x = after(calls);
            long[] sums = new long[OPTIONS];
            long[][] through = new long[OFFICES][OPTIONS];
            int count = 0;
            int marked = 0;
            for (int p = 0; p < PRECINCTS; p++) {
                int v = x.included(o, p);
                int from = x.through(o, p);
                due.is("included somehow", v != 0, from != CountHouse.NONE);
                if (v == 0) {
                    continue;
                }
                int[] row = versions.get(p).get(v);
                for (int option = 0; option < OPTIONS; option++) {
                    sums[option] += row[option];
                    through[from][option] += row[option];
                }
                count++;
                marked += row[OPTIONS] == 0 ? 0 : 1;
                due.is("through one that hangs there", from == o || x.office(from, 0) == o, true);
                due.is("newest at least", v <= x.newest(p), true);
                due.is("as own the newest", from != o || v == x.newest(p), true);
            }
            due.is("office(" + o + ", 7)", x.office(o, 7), count);
            due.is("marked(" + o + ")", x.marked(o), marked);
            due.is("astray()", x.astray(), 0);
            lookAtSums(after(calls), o, sums, through);
        }
    }

    private void lookAtSums(CountHouse x, int o, long[] sums, long[][] through) {
        for (int option = 0; option < OPTIONS; option++) {
            due.is("sum(" + o + ", " + option + ")", x.sum(o, option), sums[option]);
            for (int c = 0; c < OFFICES; c++) {
                due.is("held(" + o + ", " + c + ", " + option + ")", x.held(o, c, option),
                        c == o ? 0 : through[c][option]);
            }
        }
        int n = 1 + random.nextInt(1000);
        for (int rule = 0; rule < 3; rule++) {
            int given = 0;
            for (int option = 0; option < OPTIONS; option++) {
                int seats = x.seats(o, n, rule, option);
                due.is("seats without votes", seats != 0 && sums[option] == 0, false);
                given += seats;
            }
            boolean none = sums[0] + sums[1] + sums[2] + sums[3] + sums[4] + sums[5] == 0;
            due.is("all seats are given", given, none ? 0 : n);
        }
    }

    /** A call that throws changes nothing: without those calls all is the same. */
    private void lookAtThrowing() {
        for (int o = 0; o < OFFICES; o++) {
            due.is("with and without calls that throw", view(after(calls), o),
                    view(after(callsThatThrewNot), o));
        }
    }

    private static String view(CountHouse x, int o) {
        StringBuilder text = new StringBuilder();
        for (int what = 0; what < 8; what++) {
            text.append(x.office(o, what)).append(' ');
        }
        for (int p = 0; p < PRECINCTS; p++) {
            text.append(x.included(o, p)).append('/').append(x.through(o, p)).append(' ');
        }
        int letters = x.letters();
        text.append(letters).append(' ');
        for (int i = o; i < letters && i < 200; i += OFFICES) {
            for (int what = 0; what < 5; what++) {
                text.append(x.letter(i, what)).append('.');
            }
        }
        for (int option = 0; option < OPTIONS; option++) {
            text.append(' ').append(x.votes(option, 0));
        }
        return text.toString();
    }

    /**
     * When all is told at last, the top of each tree has the newest of each precinct whose home is
     * in the tree, and no other one; whether there was time for it.
     */
    private boolean settle() {
        List<int[]> more = new ArrayList<>(calls);
        CountHouse x = after(calls);
        int used = calls.size();
        boolean rests = x.isAtRest();
        while (used < MOST_CALLS - CALLS_OF_A_ROUND - CALLS_OF_A_LOOK && !rests) {
            used += x.letters() == 0 ? resendAll(x, more) : settleBy(x, more, DELIVER, 0);
            rests = x.isAtRest();
            used += 2;
        }
        for (int o = 0; o < OFFICES && rests; o++) {
            lookAtTop(after(more), o);
        }
        return rests;
    }

    private static int resendAll(CountHouse x, List<int[]> more) {
        int used = 0;
        for (int o = 1; o < OFFICES; o++) {
            used++;
            if (x.office(o, 0) != CountHouse.NONE) {
                used += settleBy(x, more, RESEND, o);
            }
        }
        return used;
    }

    private static int settleBy(CountHouse x, List<int[]> more, int kind, int argument) {
        int[] call = {kind, argument, 0, 0, 0};
        more.add(call);
        answer(x, call);
        return 1;
    }

    private void lookAtTop(CountHouse x, int top) {
        int[] parent = new int[OFFICES];
        boolean[] up = new boolean[OFFICES];
        for (int o = 0; o < OFFICES; o++) {
            parent[o] = x.office(o, 0);
            up[o] = x.office(o, 2) == 1;
        }
        if (parent[top] != CountHouse.NONE) {
            return;
        }
        int[] home = new int[PRECINCTS];
        homes(home);
        for (int p = 0; p < precincts; p++) {
            boolean here = up[home[p]] && topOf(parent, home[p]) == top;
            due.is("at rest, included(" + top + ", " + p + ")", x.included(top, p),
                    here ? x.newest(p) : 0);
        }
    }

    private void homes(int[] home) {
        for (int[] call : callsThatThrewNot) {
            if (call[0] == 0 || call[0] == MOVE) {
                home[call[1]] = call[2];
            }
        }
    }

    private static int topOf(int[] parent, int office) {
        int at = office;
        while (parent[at] != CountHouse.NONE) {
            at = parent[at];
        }
        return at;
    }
}
