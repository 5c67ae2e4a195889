import java.util.ArrayList;
import java.util.List;

/**
 * 'where several fit, the first that is named. A call that throws changes nothing.', for every method
 * that throws. An object has 512 calls, too few to look at all of it: so each view is taken of a new
 * object with the same calls behind it, once with the refused call and once without.
 */
public final class RefusedTest extends Cases {
    private interface Asked {
        Object of(CountHouse x);
    }

    private interface Start {
        CountHouse make();
    }

    private static final int MOST_CALLS = 512;
    private static final int LETTERS_OF_A_VIEW = 25;

    private final String name;
    private final Start start;
    private final List<Asked> views = new ArrayList<>();
    private final List<String> before = new ArrayList<>();

    /** callsOfStart: at least as many as the start makes. */
    private RefusedTest(String name, int callsOfStart, Start start) {
        this.name = name;
        this.start = start;
        due.part(name);
        int letters = start.make().letters();
        for (int o = 0; o < 12; o++) {
            int office = o;
            views.add(x -> offices(x, office));
            views.add(x -> homes(x, office));
        }
        for (int i = 0; i < letters; i += LETTERS_OF_A_VIEW) {
            int first = i;
            views.add(x -> posted(x, first));
        }
        views.add(RefusedTest::drafts);
        views.add(RefusedTest::newestOnes);
        views.add(RefusedTest::registers);
        views.add(RefusedTest::hangingsLeft);
        views.add(RefusedTest::failuresLeft);
        views.add(x -> versionsLeft(x, MOST_CALLS - callsOfStart - 2));
        for (Asked view : views) {
            before.add(view.of(start.make()).toString());
        }
    }

    private void refuses(String call, Class<? extends RuntimeException> want, Asked made) {
        due.part("a refused call, " + name);
        for (int k = 0; k < views.size(); k++) {
            CountHouse x = start.make();
            due.thrown(call, want, () -> made.of(x));
            due.is("what is seen behind " + call, views.get(k).of(x).toString(), before.get(k));
        }
    }

    private void refusesPrecinct(Class<? extends RuntimeException> want, int p, int home, int register) {
        refuses("precinct(" + p + ", " + home + ", " + register + ")", want, x -> {
            x.precinct(p, home, register);
            return "nothing";
        });
    }

    public static void main(String[] args) {
        RefusedTest busy = new RefusedTest("a busy night", 80, RefusedTest::busy);
        precinct(busy);
        votes(busy);
        version(busy);
        hang(busy);
        failAndRevive(busy);
        move(busy);
        post(busy, busy().letters());
        resend(busy);
        sums(busy);
        includedOnes(busy);
        office(busy);
        seats(busy);
        atFullPost(new RefusedTest("500 letters", 170, () -> withLetters(500)));
        atMostVersions(new RefusedTest("300 versions", 310, RefusedTest::mostVersions));
        atMostHangings(new RefusedTest("60 hangings", 70, RefusedTest::mostHangings));
        atMostFailures(new RefusedTest("30 failures", 70, RefusedTest::mostFailures));
        due.end();
    }

    /** Office 4 is down; changes wait at office 0, an own one among them; an old letter is there. */
    private static CountHouse busy() {
        CountHouse x = new CountHouse();
        x.hang(1, 0);
        x.hang(2, 0);
        x.hang(3, 1);
        x.hang(5, 2);
        report(x, 0, 1, 10);
        report(x, 1, 2, 20);
        report(x, 2, 3, 30);
        report(x, 3, 0, 40);
        for (int i = 0; i < 4; i++) {
            x.deliver(0);
        }
        x.move(0, 2);
        x.deliver(1);
        x.move(1, 0);
        report(x, 4, 5, 50);
        x.hang(5, 1);
        next(x, 2, 7, 35);
        x.fail(4);
        report(x, 5, 4, 60);
        x.precinct(8, 2, 30);
        for (int option = 0; option < 6; option++) {
            x.votes(option, option + 1);
        }
        officeIsAll(x, 0, NONE, 0, 1, 2, 2, 0, 0, 4);
        due.is("letters()", x.letters(), 5);
        return x;
    }

    private static CountHouse mostVersions() {
        CountHouse x = new CountHouse();
        x.precinct(0, 1, 5);
        x.precinct(1, 2, 5);
        for (int v = 1; v <= 300; v++) {
            x.version(v % 2, v, 0, 0);
        }
        x.votes(3, 9);
        return x;
    }

    private static CountHouse mostHangings() {
        CountHouse x = new CountHouse();
        x.fail(4);
        report(x, 0, 2, 10);
        for (int i = 0; i < 59; i++) {
            x.hang(2, 1);
        }
        x.hang(3, 2);
        return x;
    }

    private static CountHouse mostFailures() {
        CountHouse x = new CountHouse();
        x.hang(2, 1);
        report(x, 0, 2, 10);
        for (int i = 0; i < 29; i++) {
            x.fail(3);
            x.revive(3);
        }
        x.fail(4);
        return x;
    }

    private static String offices(CountHouse x, int o) {
        StringBuilder text = new StringBuilder();
        for (int what = 0; what < 8; what++) {
            text.append(x.office(o, what)).append(' ');
        }
        for (int p = 0; p < 40; p++) {
            text.append(x.included(o, p)).append('/').append(x.through(o, p)).append(' ');
        }
        for (int option = 0; option < 6; option++) {
            text.append(x.sum(o, option)).append(' ');
        }
        return text.append(x.marked(o)).append(x.isAtRest()).append(x.letters()).toString();
    }

    private static String posted(CountHouse x, int first) {
        StringBuilder text = new StringBuilder();
        for (int i = first; i < first + LETTERS_OF_A_VIEW && i < x.letters(); i++) {
            for (int what = 0; what < 5; what++) {
                text.append(x.letter(i, what)).append(' ');
            }
        }
        return text.toString();
    }

    private static String drafts(CountHouse x) {
        StringBuilder text = new StringBuilder();
        for (int option = 0; option < 6; option++) {
            text.append(x.votes(option, 0)).append(' ');
        }
        return text.toString();
    }

    private static String newestOnes(CountHouse x) {
        StringBuilder text = new StringBuilder();
        for (int p = 0; p < 40; p++) {
            text.append(x.newest(p)).append(' ');
        }
        return text.toString();
    }

    /** A precinct moves to each office but its home. */
    private static String homes(CountHouse x, int office) {
        StringBuilder text = new StringBuilder();
        for (int p = 0; p < 40; p++) {
            int asked = p;
            text.append(answer(() -> x.move(asked, office))).append(' ');
        }
        return text.toString();
    }

    /** The marks tell the register, and the votes of the version before. */
    private static String registers(CountHouse x) {
        StringBuilder text = new StringBuilder();
        for (int p = 0; p < 40; p++) {
            int asked = p;
            text.append(answer(() -> x.version(asked, Integer.MAX_VALUE, 0, 35))).append(' ');
        }
        return text.toString();
    }

    private static String hangingsLeft(CountHouse x) {
        StringBuilder text = new StringBuilder();
        for (int i = 0; i < 61; i++) {
            text.append(answer(() -> x.hang(11, 10))).append(' ');
        }
        return text.toString();
    }

    private static String failuresLeft(CountHouse x) {
        StringBuilder text = new StringBuilder();
        for (int i = 0; i < 31; i++) {
            text.append(answer(() -> x.fail(11))).append(' ').append(answer(() -> x.revive(11))).append(' ');
        }
        return text.toString();
    }

    private static String versionsLeft(CountHouse x, int calls) {
        StringBuilder text = new StringBuilder();
        for (int i = 0; i < calls && i < 301; i++) {
            int v = 1000 + i;
            text.append(answer(() -> x.version(0, v, 0, 35))).append(' ');
        }
        return text.toString();
    }

    private static String answer(Due.Call call) {
        try {
            return call.answer().toString();
        } catch (RuntimeException e) {
            return e.getClass().getSimpleName();
        }
    }

    private static void precinct(RefusedTest t) {
        t.refusesPrecinct(INDEX, -1, 6, 5);
        t.refusesPrecinct(INDEX, 40, 6, 5);
        t.refusesPrecinct(INDEX, 9, -1, 5);
        t.refusesPrecinct(INDEX, 9, 12, 5);
        t.refusesPrecinct(ARGUMENT, 9, 6, -1);
        t.refusesPrecinct(ARGUMENT, 9, 6, MANY + 1);
        t.refusesPrecinct(STATE, 0, 6, 5);
        t.refusesPrecinct(STATE, 8, 6, 50);
        // Several fit.
        t.refusesPrecinct(INDEX, 40, 6, -1);
        t.refusesPrecinct(INDEX, 9, 12, -1);
        t.refusesPrecinct(INDEX, 0, 12, 5);
        t.refusesPrecinct(INDEX, 0, 12, -1);
        t.refusesPrecinct(ARGUMENT, 0, 6, -1);
        t.refusesPrecinct(ARGUMENT, 0, 6, MANY + 1);
    }

    private static void votes(RefusedTest t) {
        t.refuses("votes(-1, 5)", INDEX, x -> x.votes(-1, 5));
        t.refuses("votes(6, 5)", INDEX, x -> x.votes(6, 5));
        t.refuses("votes(0, -1)", ARGUMENT, x -> x.votes(0, -1));
        t.refuses("votes(5, 10000001)", ARGUMENT, x -> x.votes(5, MANY + 1));
        // Several fit.
        t.refuses("votes(6, -1)", INDEX, x -> x.votes(6, -1));
        t.refuses("votes(-1, 10000001)", INDEX, x -> x.votes(-1, MANY + 1));
    }

    private static void version(RefusedTest t) {
        t.refuses("version(-1, 9, 0, 0)", INDEX, x -> x.version(-1, 9, 0, 0));
        t.refuses("version(40, 9, 0, 0)", INDEX, x -> x.version(40, 9, 0, 0));
        t.refuses("version(9, 9, 0, 0), not there yet", INDEX, x -> x.version(9, 9, 0, 0));
        t.refuses("version(0, 1, 0, 0), the newest", ARGUMENT, x -> x.version(0, 1, 0, 0));
        t.refuses("version(8, 0, 0, 0), before one", ARGUMENT, x -> x.version(8, 0, 0, 0));
        t.refuses("version(0, 2, -1, 0)", ARGUMENT, x -> x.version(0, 2, -1, 0));
        t.refuses("version(0, 2, 10000001, 0)", ARGUMENT, x -> x.version(0, 2, MANY + 1, 0));
        t.refuses("version(0, 2, 0, -1)", ARGUMENT, x -> x.version(0, 2, 0, -1));
        t.refuses("version(0, 2, 0, 10000001)", ARGUMENT, x -> x.version(0, 2, 0, MANY + 1));
        // Several fit.
        t.refuses("version(9, 0, -1, -1)", INDEX, x -> x.version(9, 0, -1, -1));
        t.refuses("version(40, 0, -1, -1)", INDEX, x -> x.version(40, 0, -1, -1));
    }

    private static void hang(RefusedTest t) {
        t.refuses("hang(-1, 0)", INDEX, x -> x.hang(-1, 0));
        t.refuses("hang(12, 0)", INDEX, x -> x.hang(12, 0));
        t.refuses("hang(1, -1)", INDEX, x -> x.hang(1, -1));
        t.refuses("hang(1, 12)", INDEX, x -> x.hang(1, 12));
        t.refuses("hang(0, 6)", ARGUMENT, x -> x.hang(0, 6));
        t.refuses("hang(1, 1)", ARGUMENT, x -> x.hang(1, 1));
        t.refuses("hang(4, 0), it is down", STATE, x -> x.hang(4, 0));
        t.refuses("hang(1, 4), the other one is down", STATE, x -> x.hang(1, 4));
        t.refuses("hang(1, 3), below it", STATE, x -> x.hang(1, 3));
        // Several fit.
        t.refuses("hang(0, 12)", INDEX, x -> x.hang(0, 12));
        t.refuses("hang(12, 12)", INDEX, x -> x.hang(12, 12));
        t.refuses("hang(4, 12)", INDEX, x -> x.hang(4, 12));
        t.refuses("hang(-1, 4)", INDEX, x -> x.hang(-1, 4));
        t.refuses("hang(0, 0)", ARGUMENT, x -> x.hang(0, 0));
        t.refuses("hang(0, 1), below it", ARGUMENT, x -> x.hang(0, 1));
        t.refuses("hang(0, 4), down", ARGUMENT, x -> x.hang(0, 4));
        t.refuses("hang(4, 4), down", ARGUMENT, x -> x.hang(4, 4));
    }

    private static void failAndRevive(RefusedTest t) {
        t.refuses("fail(-1)", INDEX, x -> x.fail(-1));
        t.refuses("fail(12)", INDEX, x -> x.fail(12));
        t.refuses("fail(4)", STATE, x -> x.fail(4));
        t.refuses("revive(-1)", INDEX, x -> x.revive(-1));
        t.refuses("revive(12)", INDEX, x -> x.revive(12));
        for (int office : new int[] {0, 1, 2, 3, 5, 11}) {
            t.refuses("revive(" + office + ")", STATE, x -> x.revive(office));
        }
    }

    private static void move(RefusedTest t) {
        t.refuses("move(-1, 6)", INDEX, x -> x.move(-1, 6));
        t.refuses("move(40, 6)", INDEX, x -> x.move(40, 6));
        t.refuses("move(9, 6), not there yet", INDEX, x -> x.move(9, 6));
        t.refuses("move(0, -1)", INDEX, x -> x.move(0, -1));
        t.refuses("move(0, 12)", INDEX, x -> x.move(0, 12));
        t.refuses("move(9, 12)", INDEX, x -> x.move(9, 12));
        t.refuses("move(0, 2), its home", STATE, x -> x.move(0, 2));
        t.refuses("move(1, 0), its home, where it waits", STATE, x -> x.move(1, 0));
        t.refuses("move(5, 4), its home, which is down", STATE, x -> x.move(5, 4));
        t.refuses("move(8, 2), its home, without a version", STATE, x -> x.move(8, 2));
    }

    private static void post(RefusedTest t, int letters) {
        for (int i : new int[] {-1, letters, Integer.MIN_VALUE, Integer.MAX_VALUE}) {
            t.refuses("deliver(" + i + ")", INDEX, x -> x.deliver(i));
            t.refuses("drop(" + i + ")", INDEX, x -> x.drop(i));
            t.refuses("twin(" + i + ")", INDEX, x -> x.twin(i));
            t.refuses("letter(" + i + ", 0)", INDEX, x -> x.letter(i, 0));
            // Several fit.
            t.refuses("letter(" + i + ", 5)", INDEX, x -> x.letter(i, 5));
        }
        t.refuses("letter(0, -1)", ARGUMENT, x -> x.letter(0, -1));
        t.refuses("letter(0, 5)", ARGUMENT, x -> x.letter(0, 5));
    }

    private static void resend(RefusedTest t) {
        t.refuses("resend(-1)", INDEX, x -> x.resend(-1));
        t.refuses("resend(12)", INDEX, x -> x.resend(12));
        t.refuses("resend(0)", STATE, x -> x.resend(0));
        t.refuses("resend(4), down", STATE, x -> x.resend(4));
        t.refuses("resend(11)", STATE, x -> x.resend(11));
    }

    private static void sums(RefusedTest t) {
        t.refuses("sum(-1, 0)", INDEX, x -> x.sum(-1, 0));
        t.refuses("sum(12, 0)", INDEX, x -> x.sum(12, 0));
        t.refuses("sum(0, -1)", INDEX, x -> x.sum(0, -1));
        t.refuses("sum(0, 6)", INDEX, x -> x.sum(0, 6));
        t.refuses("held(-1, 1, 0)", INDEX, x -> x.held(-1, 1, 0));
        t.refuses("held(12, 1, 0)", INDEX, x -> x.held(12, 1, 0));
        t.refuses("held(0, -1, 0)", INDEX, x -> x.held(0, -1, 0));
        t.refuses("held(0, 12, 0)", INDEX, x -> x.held(0, 12, 0));
        t.refuses("held(0, 1, -1)", INDEX, x -> x.held(0, 1, -1));
        t.refuses("held(0, 1, 6)", INDEX, x -> x.held(0, 1, 6));
        t.refuses("held(0, 11, 6), it hangs nowhere", INDEX, x -> x.held(0, 11, 6));
    }

    private static void includedOnes(RefusedTest t) {
        t.refuses("included(-1, 0)", INDEX, x -> x.included(-1, 0));
        t.refuses("included(12, 0)", INDEX, x -> x.included(12, 0));
        t.refuses("included(0, -1)", INDEX, x -> x.included(0, -1));
        t.refuses("included(0, 40)", INDEX, x -> x.included(0, 40));
        t.refuses("through(-1, 0)", INDEX, x -> x.through(-1, 0));
        t.refuses("through(12, 0)", INDEX, x -> x.through(12, 0));
        t.refuses("through(0, -1)", INDEX, x -> x.through(0, -1));
        t.refuses("through(0, 40)", INDEX, x -> x.through(0, 40));
        t.refuses("marked(-1)", INDEX, x -> x.marked(-1));
        t.refuses("marked(12)", INDEX, x -> x.marked(12));
        t.refuses("newest(-1)", INDEX, x -> x.newest(-1));
        t.refuses("newest(40)", INDEX, x -> x.newest(40));
    }

    private static void office(RefusedTest t) {
        t.refuses("office(-1, 0)", INDEX, x -> x.office(-1, 0));
        t.refuses("office(12, 0)", INDEX, x -> x.office(12, 0));
        t.refuses("office(0, -1)", ARGUMENT, x -> x.office(0, -1));
        t.refuses("office(0, 8)", ARGUMENT, x -> x.office(0, 8));
        // Several fit.
        t.refuses("office(-1, 8)", INDEX, x -> x.office(-1, 8));
        t.refuses("office(12, -1)", INDEX, x -> x.office(12, -1));
    }

    private static void seats(RefusedTest t) {
        t.refuses("seats(-1, 1, 0, 0)", INDEX, x -> x.seats(-1, 1, 0, 0));
        t.refuses("seats(12, 1, 0, 0)", INDEX, x -> x.seats(12, 1, 0, 0));
        t.refuses("seats(0, 1, 0, -1)", INDEX, x -> x.seats(0, 1, 0, -1));
        t.refuses("seats(0, 1, 0, 6)", INDEX, x -> x.seats(0, 1, 0, 6));
        t.refuses("seats(0, 0, 0, 0)", ARGUMENT, x -> x.seats(0, 0, 0, 0));
        t.refuses("seats(0, 1001, 0, 0)", ARGUMENT, x -> x.seats(0, 1001, 0, 0));
        t.refuses("seats(0, 1, -1, 0)", ARGUMENT, x -> x.seats(0, 1, -1, 0));
        t.refuses("seats(0, 1, 3, 0)", ARGUMENT, x -> x.seats(0, 1, 3, 0));
        // Several fit.
        t.refuses("seats(12, 0, 0, 0)", INDEX, x -> x.seats(12, 0, 0, 0));
        t.refuses("seats(12, 1, 3, 0)", INDEX, x -> x.seats(12, 1, 3, 0));
        t.refuses("seats(0, 0, 0, 6)", INDEX, x -> x.seats(0, 0, 0, 6));
        t.refuses("seats(0, 1, 3, 6)", INDEX, x -> x.seats(0, 1, 3, 6));
        t.refuses("seats(11, 0, 3, 0), no votes", ARGUMENT, x -> x.seats(11, 0, 3, 0));
    }

    private static void atFullPost(RefusedTest t) {
        t.refuses("twin(0)", STATE, x -> x.twin(0));
        t.refuses("twin(499)", STATE, x -> x.twin(499));
        // Several fit.
        t.refuses("twin(-1)", INDEX, x -> x.twin(-1));
        t.refuses("twin(500)", INDEX, x -> x.twin(500));
    }

    private static void atMostVersions(RefusedTest t) {
        t.refuses("version(0, 301, 0, 0)", LIMIT, x -> x.version(0, 301, 0, 0));
        t.refuses("version(1, 301, 1, 9)", LIMIT, x -> x.version(1, 301, 1, 9));
        // Several fit.
        t.refuses("version(2, 301, 0, 0), not there yet", INDEX, x -> x.version(2, 301, 0, 0));
        t.refuses("version(40, 301, 0, 0)", INDEX, x -> x.version(40, 301, 0, 0));
        t.refuses("version(0, 300, 0, 0)", ARGUMENT, x -> x.version(0, 300, 0, 0));
        t.refuses("version(0, 301, -1, 0)", ARGUMENT, x -> x.version(0, 301, -1, 0));
        t.refuses("version(0, 301, 0, 10000001)", ARGUMENT, x -> x.version(0, 301, 0, MANY + 1));
    }

    private static void atMostHangings(RefusedTest t) {
        t.refuses("hang(2, 1)", LIMIT, x -> x.hang(2, 1));
        t.refuses("hang(3, 0)", LIMIT, x -> x.hang(3, 0));
        t.refuses("hang(5, 2)", LIMIT, x -> x.hang(5, 2));
        // Several fit.
        t.refuses("hang(12, 1)", INDEX, x -> x.hang(12, 1));
        t.refuses("hang(2, 12)", INDEX, x -> x.hang(2, 12));
        t.refuses("hang(0, 1)", ARGUMENT, x -> x.hang(0, 1));
        t.refuses("hang(2, 2)", ARGUMENT, x -> x.hang(2, 2));
        t.refuses("hang(4, 1), it is down", STATE, x -> x.hang(4, 1));
        t.refuses("hang(2, 4), the other one is down", STATE, x -> x.hang(2, 4));
        t.refuses("hang(1, 3), below it", STATE, x -> x.hang(1, 3));
    }

    private static void atMostFailures(RefusedTest t) {
        t.refuses("fail(0)", LIMIT, x -> x.fail(0));
        t.refuses("fail(1)", LIMIT, x -> x.fail(1));
        t.refuses("fail(2)", LIMIT, x -> x.fail(2));
        // Several fit.
        t.refuses("fail(12)", INDEX, x -> x.fail(12));
        t.refuses("fail(4), down", STATE, x -> x.fail(4));
    }
}
