/** What the tests of promises and of sentences share: wrong numbers, short ways to a state, looks at it. */
abstract class Cases {
    static final Class<IndexOutOfBoundsException> INDEX = IndexOutOfBoundsException.class;
    static final Class<IllegalArgumentException> ARGUMENT = IllegalArgumentException.class;
    static final Class<IllegalStateException> STATE = IllegalStateException.class;
    static final Class<UnsupportedOperationException> LIMIT = UnsupportedOperationException.class;
    static final int NONE = CountHouse.NONE;
    static final int MANY = 10000000;
    static final int[] NOT_OFFICES = {-1, 12, Integer.MIN_VALUE, Integer.MAX_VALUE};
    static final int[] NOT_PRECINCTS = {-1, 40, Integer.MIN_VALUE, Integer.MAX_VALUE};
    static final int[] NOT_OPTIONS = {-1, 6, Integer.MIN_VALUE, Integer.MAX_VALUE};
    static final int[] NOT_COUNTS = {-1, MANY + 1, Integer.MIN_VALUE, Integer.MAX_VALUE};

    /** What office() tells, by its second argument. */
    static final int PARENT = 0;
    static final int EPOCH = 1;
    static final int UP = 2;
    static final int CHILDREN = 3;
    static final int WAITING = 4;
    static final int LINE = 5;
    static final int TAKEN = 6;
    static final int PRECINCTS = 7;

    static final Due due = new Due();

    static void thrownByPrecinct(CountHouse x, Class<? extends RuntimeException> want, int p, int home,
            int register) {
        due.thrown("precinct(" + p + ", " + home + ", " + register + ")", want, () -> {
            x.precinct(p, home, register);
            return "nothing";
        });
    }

    /** A precinct with a version 1 that has these votes for option 0. */
    static void report(CountHouse x, int p, int home, int votes) {
        x.precinct(p, home, 1000);
        next(x, p, 1, votes);
    }

    static int next(CountHouse x, int p, int v, int votes) {
        x.votes(0, votes);
        return x.version(p, v, 0, 1000);
    }

    static void deliverAll(CountHouse x) {
        for (int i = 0; i < 200 && x.letters() > 0; i++) {
            x.deliver(0);
        }
    }

    static void letterIs(CountHouse x, int i, int office, int epoch, int number, int p, int v) {
        String got = x.letter(i, 0) + " " + x.letter(i, 1) + " " + x.letter(i, 2) + " " + x.letter(i, 3)
                + " " + x.letter(i, 4);
        due.is("letter " + i, got, office + " " + epoch + " " + number + " " + p + " " + v);
    }

    static void shows(CountHouse x, int office, int p, int v, int through) {
        due.is("included(" + office + ", " + p + ")", x.included(office, p), v);
        due.is("through(" + office + ", " + p + ")", x.through(office, p), through);
    }

    static void officeIs(CountHouse x, int office, int what, int want) {
        due.is("office(" + office + ", " + what + ")", x.office(office, what), want);
    }

    static void vote(CountHouse x, int p, int home, int... votes) {
        x.precinct(p, home, MANY);
        for (int option = 0; option < votes.length; option++) {
            x.votes(option, votes[option]);
        }
        x.version(p, 1, 0, MANY);
    }

    static void seatsAre(CountHouse x, int office, int n, int rule, int... want) {
        for (int option = 0; option < want.length; option++) {
            due.is("seats(" + office + ", " + n + ", " + rule + ", " + option + ")",
                    x.seats(office, n, rule, option), want[option]);
        }
    }

    /**
     * So many letters, 468 .. 500: precincts 0 .. 38 at office 1, which hangs 12 times under office 0,
     * then twins of the first letter. Precinct 39 is not there.
     */
    static CountHouse withLetters(int count) {
        CountHouse x = new CountHouse();
        for (int p = 0; p < 39; p++) {
            report(x, p, 1, p);
        }
        for (int i = 0; i < 12; i++) {
            x.hang(1, 0);
        }
        for (int n = 468; n < count; n++) {
            x.twin(0);
        }
        due.is("letters() of the start", x.letters(), count);
        return x;
    }

    /**
     * Precinct 0 is included at office 0 through office 1, and has moved on to office 2, which hangs
     * there too. Letter 0: office 1 has it no more; letter 1: office 2 has it, version 1.
     */
    static CountHouse contested() {
        CountHouse x = new CountHouse();
        x.hang(1, 0);
        x.hang(2, 0);
        report(x, 0, 1, 10);
        x.deliver(0);
        x.move(0, 2);
        shows(x, 0, 0, 1, 1);
        return x;
    }

    /** All of an office that office() tells. */
    static void officeIsAll(CountHouse x, int office, int... want) {
        for (int what = 0; what < want.length; what++) {
            officeIs(x, office, what, want[what]);
        }
    }
}
