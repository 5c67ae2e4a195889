import java.lang.reflect.InvocationTargetException;
import java.lang.reflect.Method;
import java.util.ArrayList;
import java.util.Arrays;
import java.util.List;
import java.util.Random;
import java.util.TreeSet;

/**
 * The same calls, drawn from fixed seeds, on a CountHouse and on a SecondHouse: every answer and every
 * exception must be the same. Each CountHouse is used for 512 calls at most.
 */
public final class TwoHousesTest {
    private static final int NIGHTS = 400;
    private static final int MOST_CALLS = 512;
    private static final int OFFICES = 12;
    private static final int PRECINCTS = 40;
    private static final int OPTIONS = 6;
    private static final String[] CHANGING = {"precinct", "votes", "version", "hang", "fail", "revive", "move",
        "deliver", "drop", "twin", "resend"};
    private static final String[] ASKING = {"letters", "letter", "sum", "included", "through", "held", "marked",
        "office", "newest", "seats", "isAtRest", "astray"};
    /** How often each of the changing ones is drawn: in mixed nights, and in those that go for a limit. */
    private static final int[][] WEIGHTS = {
        {1, 6, 10, 6, 1, 3, 8, 40, 3, 3, 4},
        {1, 2, 6, 10, 0, 1, 4, 12, 1, 10, 20},
        {0, 2, 60, 2, 0, 1, 2, 6, 1, 0, 1},
        {1, 3, 6, 30, 12, 20, 6, 20, 1, 1, 3}};

    private static final Due due = new Due();
    private static final TreeSet<String> seen = new TreeSet<>();

    /** A method's name and its arguments. */
    private record Call(String name, int... arguments) {
        String answerOf(Object house) {
            try {
                return String.valueOf(method(house.getClass()).invoke(house, boxed()));
            } catch (InvocationTargetException e) {
                return e.getCause().getClass().getSimpleName();
            } catch (ReflectiveOperationException e) {
                throw new IllegalStateException(this + " can't be made", e);
            }
        }

        private Method method(Class<?> of) throws NoSuchMethodException {
            Class<?>[] types = new Class<?>[arguments.length];
            Arrays.fill(types, int.class);
            return of.getMethod(name, types);
        }

        private Object[] boxed() {
            return Arrays.stream(arguments).boxed().toArray();
        }

        @Override
        public String toString() {
            String list = Arrays.toString(arguments);
            return name + "(" + list.substring(1, list.length() - 1) + ")";
        }
    }

    private final Random random;
    private final int[] weights;
    private final int offices;
    private final int precincts;
    private final CountHouse house = new CountHouse();
    private final SecondHouse second = new SecondHouse();
    private final List<Call> changing = new ArrayList<>();
    private int made = 0;

    private TwoHousesTest(int seed) {
        random = new Random(seed);
        weights = WEIGHTS[seed % WEIGHTS.length];
        offices = 3 + random.nextInt(OFFICES - 2);
        precincts = 1 + random.nextInt(random.nextBoolean() ? 6 : PRECINCTS);
    }

    public static void main(String[] args) {
        for (int seed = 0; seed < NIGHTS; seed++) {
            due.part("night " + seed);
            TwoHousesTest night = new TwoHousesTest(seed);
            night.drawCalls();
            night.lookAtAllAfter(night.random.nextInt(MOST_CALLS / 2));
        }
        due.part("all nights");
        lookAtWhatWasSeen();
        due.end();
    }

    private void drawCalls() {
        for (int p = 0; p < precincts; p++) {
            make(new Call("precinct", p, random.nextInt(offices), random.nextInt(100)));
        }
        while (made < MOST_CALLS) {
            make(random.nextInt(8) == 0 ? drawQuestion() : drawChange());
        }
    }

    private void make(Call call) {
        made++;
        if (Arrays.asList(CHANGING).contains(call.name)) {
            changing.add(call);
        }
        compare(call, house, second);
    }

    private static void compare(Call call, CountHouse first, SecondHouse other) {
        String want = call.answerOf(other);
        due.is(call.toString(), call.answerOf(first), want);
        seen.add(call.name + " " + want);
    }

    private Call drawChange() {
        String name = CHANGING[drawKind()];
        switch (name) {
            case "precinct":
                return new Call(name, often(random.nextInt(PRECINCTS)), office(), often(random.nextInt(100)));
            case "votes":
                return new Call(name, often(random.nextInt(OPTIONS)), count());
            case "version":
                return drawVersion();
            case "hang":
                return new Call(name, office(), office());
            case "move":
                return new Call(name, precinct(), office());
            case "fail":
            case "revive":
            case "resend":
                return new Call(name, office());
            default:
                return new Call(name, letter());
        }
    }

    private int drawKind() {
        int left = random.nextInt(Arrays.stream(weights).sum());
        int kind = 0;
        while (left >= weights[kind]) {
            left -= weights[kind];
            kind++;
        }
        return kind;
    }

    private Call drawVersion() {
        int p = precinct();
        int newest = p < 0 || p >= PRECINCTS ? 0 : Math.max(0, second.newest(p));
        int step = random.nextInt(20) == 0 ? 0 : 1 + random.nextInt(3);
        return new Call("version", p, newest + step, often(random.nextInt(5)), count());
    }

    private Call drawQuestion() {
        String name = ASKING[random.nextInt(ASKING.length)];
        switch (name) {
            case "letter":
                return new Call(name, letter(), often(random.nextInt(5)));
            case "sum":
                return new Call(name, office(), often(random.nextInt(OPTIONS)));
            case "included":
            case "through":
                return new Call(name, office(), precinct());
            case "held":
                return new Call(name, office(), office(), often(random.nextInt(OPTIONS)));
            case "marked":
                return new Call(name, office());
            case "office":
                return new Call(name, office(), often(random.nextInt(8)));
            case "newest":
                return new Call(name, precinct());
            case "seats":
                return new Call(name, office(), often(1 + random.nextInt(random.nextBoolean() ? 10 : 1000)),
                        often(random.nextInt(3)), often(random.nextInt(OPTIONS)));
            default:
                return new Call(name);
        }
    }

    private int office() {
        return often(random.nextInt(offices));
    }

    /** At times one that is not there yet. */
    private int precinct() {
        return often(random.nextInt(random.nextInt(20) == 0 ? PRECINCTS : precincts));
    }

    private int letter() {
        return often(random.nextBoolean() ? 0 : random.nextInt(Math.max(1, second.letters())));
    }

    private int count() {
        return often(random.nextInt(10) == 0 ? random.nextInt(10000001) : random.nextInt(50));
    }

    /** This number, or, seldom, one that is mostly wrong. */
    private int often(int number) {
        if (random.nextInt(40) != 0) {
            return number;
        }
        int[] others = {-1, 5, 6, 8, 12, 40, 500, 1001, 10000001, Integer.MIN_VALUE, Integer.MAX_VALUE};
        return others[random.nextInt(others.length)];
    }

    /** All that can be asked after so many changing calls; each new house of this gets its share. */
    private void lookAtAllAfter(int count) {
        List<Call> before = changing.subList(0, Math.min(count, changing.size()));
        SecondHouse other = new SecondHouse();
        before.forEach(call -> call.answerOf(other));
        List<Call> questions = allQuestions(other.letters());
        int share = MOST_CALLS - before.size();
        for (int from = 0; from < questions.size(); from += share) {
            CountHouse first = new CountHouse();
            before.forEach(call -> call.answerOf(first));
            for (Call question : questions.subList(from, Math.min(questions.size(), from + share))) {
                compare(question, first, other);
            }
        }
    }

    private List<Call> allQuestions(int letters) {
        List<Call> all = new ArrayList<>();
        for (int o = 0; o < OFFICES; o++) {
            addQuestionsOf(all, o);
        }
        for (int i = 0; i < letters; i++) {
            for (int what = 0; what < 5; what++) {
                all.add(new Call("letter", i, what));
            }
        }
        for (int p = 0; p < PRECINCTS; p++) {
            all.add(new Call("newest", p));
        }
        all.add(new Call("letters"));
        all.add(new Call("isAtRest"));
        all.add(new Call("astray"));
        return all;
    }

    private void addQuestionsOf(List<Call> all, int o) {
        all.add(new Call("marked", o));
        for (int what = 0; what < 8; what++) {
            all.add(new Call("office", o, what));
        }
        for (int p = 0; p < PRECINCTS; p++) {
            all.add(new Call("included", o, p));
            all.add(new Call("through", o, p));
        }
        int n = 1 + random.nextInt(30);
        for (int option = 0; option < OPTIONS; option++) {
            all.add(new Call("sum", o, option));
            for (int rule = 0; rule < 3; rule++) {
                all.add(new Call("seats", o, n, rule, option));
            }
            for (int child = 0; child < OFFICES; child++) {
                all.add(new Call("held", o, child, option));
            }
        }
    }

    /** The nights are worth little if they never came to a limit, an exception or a taken letter. */
    private static void lookAtWhatWasSeen() {
        for (Method method : CountHouse.class.getDeclaredMethods()) {
            for (Class<?> thrown : method.getExceptionTypes()) {
                String want = method.getName() + " " + thrown.getSimpleName();
                due.is("seen: " + want, seen.contains(want), true);
            }
        }
        for (String want : List.of("deliver true", "deliver false", "move true", "move false", "fail 2",
                "version 7", "letters 500", "isAtRest true", "isAtRest false")) {
            due.is("seen: " + want, seen.contains(want), true);
        }
    }
}
