/** Each sentence of promises 15 to 24, whose calls only look, that names a boundary, with a test of its own. */
public final class ViewEdgesTest extends Cases {
    public static void main(String[] args) {
        sumOfNone();
        sumOfTheMost();
        included0ForNone();
        throughItselfOrNone();
        held0WhenItHangsElsewhere();
        heldThroughThisChildOnly();
        markedCountsVersions();
        officeWhat();
        officeChildren();
        officeWaitingOwnToo();
        officePrecincts();
        newest0BeforeOne();
        seatsAre1To1000();
        seatsRules();
        seatsOfNoVotes();
        seatsOfOneVote();
        seatsOneMoreThanItHas();
        seatsTwiceThatAndOneMore();
        seatsDownwardThenRests();
        seatsOfSeveralTheLeast();
        restOfNoLetters();
        restOfTakenChanges();
        restOfNothingWaiting();
        astrayNever();
        due.end();
    }

    private static void sumOfNone() {
        due.part("15 'all versions that an office includes': none");
        CountHouse x = new CountHouse();
        x.precinct(0, 1, 50);
        x.votes(0, 5);
        due.is("a draft is no version", x.sum(1, 0), 0);
        x.fail(1);
        x.version(0, 1, 0, 5);
        due.is("a version at a home that is down", x.sum(1, 0), 0);
        x.revive(1);
        due.is("included", x.sum(1, 0), 5);
    }

    private static void sumOfTheMost() {
        due.part("15 'The sum': all precincts with the most votes");
        CountHouse x = new CountHouse();
        for (int p = 0; p < 40; p++) {
            x.precinct(p, 0, MANY);
            x.votes(5, MANY);
            x.version(p, 1, 0, MANY);
        }
        due.is("sum(0, 5)", x.sum(0, 5), 40L * MANY);
        due.is("sum(0, 4)", x.sum(0, 4), 0);
        due.is("sum(1, 5)", x.sum(1, 5), 0);
        due.is("seats(0, 1000, 2, 5)", x.seats(0, 1000, 2, 5), 1000);
    }

    private static void included0ForNone() {
        due.part("16 '0 for none'");
        CountHouse x = new CountHouse();
        due.is("not there yet", x.included(1, 0), 0);
        x.precinct(0, 1, 5);
        due.is("before a version", x.included(1, 0), 0);
        x.version(0, 4, 0, 0);
        due.is("a version", x.included(1, 0), 4);
        due.is("elsewhere", x.included(2, 0), 0);
        x.move(0, 2);
        due.is("moved away", x.included(1, 0), 0);
        x.fail(2);
        due.is("down", x.included(2, 0), 0);
    }

    private static void throughItselfOrNone() {
        due.part("17 'the child, the office itself for its own, NONE'");
        CountHouse x = new CountHouse();
        due.is("not there yet", x.through(0, 0), NONE);
        x.precinct(0, 0, 5);
        due.is("before a version", x.through(0, 0), NONE);
        x.version(0, 1, 0, 0);
        due.is("office 0 itself", x.through(0, 0), 0);
        x.move(0, 11);
        due.is("moved away", x.through(0, 0), NONE);
        due.is("office 11 itself", x.through(11, 0), 11);
        x.hang(11, 0);
        due.is("before the letter", x.through(0, 0), NONE);
        x.deliver(0);
        due.is("the child", x.through(0, 0), 11);
        x.hang(11, 5);
        due.is("taken away", x.through(0, 0), NONE);
    }

    private static void held0WhenItHangsElsewhere() {
        due.part("18 '0 when it hangs elsewhere'");
        CountHouse x = new CountHouse();
        report(x, 0, 1, 10);
        report(x, 1, 0, 20);
        due.is("nowhere", x.held(0, 1, 0), 0);
        x.hang(1, 0);
        due.is("there, before the letter", x.held(0, 1, 0), 0);
        x.deliver(0);
        due.is("there", x.held(0, 1, 0), 10);
        due.is("the other way round", x.held(1, 0, 0), 0);
        due.is("an office under itself", x.held(0, 0, 0), 0);
        x.hang(1, 2);
        due.is("elsewhere", x.held(0, 1, 0), 0);
        x.deliver(0);
        due.is("elsewhere, behind the letter", x.held(0, 1, 0), 0);
        due.is("where it hangs", x.held(2, 1, 0), 10);
        x.hang(2, 0);
        x.deliver(0);
        due.is("below a child", x.held(0, 1, 0), 0);
        due.is("the child", x.held(0, 2, 0), 10);
    }

    private static void heldThroughThisChildOnly() {
        due.part("18 'in what an office includes through a child'");
        CountHouse x = new CountHouse();
        x.hang(1, 0);
        x.hang(2, 0);
        x.hang(3, 0);
        report(x, 0, 1, 1);
        report(x, 1, 2, 2);
        report(x, 2, 0, 4);
        report(x, 3, 1, 8);
        deliverAll(x);
        due.is("held(0, 1, 0)", x.held(0, 1, 0), 9);
        due.is("held(0, 2, 0)", x.held(0, 2, 0), 2);
        due.is("a child with nothing", x.held(0, 3, 0), 0);
        due.is("another option", x.held(0, 1, 5), 0);
    }

    private static void markedCountsVersions() {
        due.part("19 'How many of the versions that an office includes have a mark'");
        CountHouse x = new CountHouse();
        x.hang(1, 0);
        x.precinct(0, 1, 10);
        x.precinct(1, 1, 10);
        due.is("nothing included", x.marked(1), 0);
        x.votes(0, 1);
        due.is("no mark", x.version(0, 1, 0, 10), 0);
        due.is("marked(1)", x.marked(1), 0);
        due.is("mark 2", x.version(0, 2, 0, 10), 2);
        due.is("marked(1)", x.marked(1), 1);
        due.is("mark 1", x.version(0, 3, 0, 11), 1);
        due.is("marked(1)", x.marked(1), 1);
        due.is("mark 4", x.version(0, 4, 11, 10), 4);
        due.is("marked(1)", x.marked(1), 1);
        due.is("two marks count once", x.version(1, 1, 12, 11), 5);
        due.is("marked(1)", x.marked(1), 2);
        due.is("above, before the letters", x.marked(0), 0);
        deliverAll(x);
        due.is("above", x.marked(0), 2);
        due.is("no mark again", x.version(0, 5, 0, 10), 0);
        due.is("marked(1)", x.marked(1), 1);
    }

    private static void officeWhat() {
        due.part("20 'what is none of these'");
        CountHouse x = new CountHouse();
        for (int office : new int[] {0, 11}) {
            officeIsAll(x, office, NONE, 0, 1, 0, 0, 0, 0, 0);
            for (int wrong : new int[] {-1, 8, 9, Integer.MIN_VALUE, Integer.MAX_VALUE}) {
                due.thrown("office(" + office + ", " + wrong + ")", ARGUMENT, () -> x.office(office, wrong));
            }
        }
        x.fail(5);
        due.thrown("of one that is down", ARGUMENT, () -> x.office(5, 8));
    }

    private static void officeChildren() {
        due.part("20 'its parent (NONE)', 'how many children it has'");
        CountHouse x = new CountHouse();
        for (int c = 1; c < 12; c++) {
            officeIs(x, c, PARENT, NONE);
            x.hang(c, 0);
            officeIs(x, c, PARENT, 0);
            officeIs(x, 0, CHILDREN, c);
        }
        x.hang(11, 10);
        officeIs(x, 0, CHILDREN, 10);
        officeIs(x, 10, CHILDREN, 1);
        x.fail(11);
        officeIs(x, 10, CHILDREN, 0);
        officeIs(x, 11, PARENT, NONE);
    }

    private static void officeWaitingOwnToo() {
        due.part("20 'how many changes wait there (own ones, too)'");
        CountHouse x = contested();
        officeIs(x, 0, WAITING, 0);
        next(x, 0, 2, 20);
        x.deliver(1);
        officeIs(x, 0, WAITING, 1);
        x.deliver(1);
        officeIs(x, 0, WAITING, 2);
        x.move(0, 0);
        officeIs(x, 0, WAITING, 3);
        officeIs(x, 1, WAITING, 0);
        officeIs(x, 2, WAITING, 0);
        x.deliver(0);
        officeIs(x, 0, WAITING, 2);
    }

    private static void officePrecincts() {
        due.part("20 'how many changes its line has, of these taken, precincts that it includes'");
        CountHouse x = new CountHouse();
        x.hang(1, 0);
        for (int p = 0; p < 40; p++) {
            x.precinct(p, 1, 5);
            x.version(p, 1, 0, 0);
        }
        officeIsAll(x, 1, 0, 1, 1, 0, 0, 40, 0, 40);
        for (int i = 1; i <= 40; i++) {
            x.deliver(0);
            officeIs(x, 1, TAKEN, i);
            officeIs(x, 0, PRECINCTS, i);
        }
        x.move(0, 2);
        officeIsAll(x, 1, 0, 1, 1, 0, 0, 41, 40, 39);
    }

    private static void newest0BeforeOne() {
        due.part("21 '0 before one; NONE when it is not there yet'");
        CountHouse x = new CountHouse();
        for (int p : new int[] {0, 39}) {
            due.is("not there yet", x.newest(p), NONE);
            x.precinct(p, 1, 5);
            due.is("before one", x.newest(p), 0);
            x.version(p, 1, 0, 0);
            due.is("the first one", x.newest(p), 1);
            x.version(p, Integer.MAX_VALUE, 0, 0);
            due.is("the greatest one", x.newest(p), Integer.MAX_VALUE);
        }
        due.is("another one", x.newest(1), NONE);
        due.is("another one", x.newest(38), NONE);
    }

    private static void seatsAre1To1000() {
        due.part("22 'n seats (1 .. 1000)'");
        CountHouse x = new CountHouse();
        vote(x, 0, 1, 0, 0, 3);
        for (int rule = 0; rule < 3; rule++) {
            int asked = rule;
            due.is("1", x.seats(1, 1, rule, 2), 1);
            due.is("1000", x.seats(1, 1000, rule, 2), 1000);
            due.is("1000, another option", x.seats(1, 1000, rule, 3), 0);
            for (int wrong : new int[] {0, -1, 1001, Integer.MIN_VALUE, Integer.MAX_VALUE}) {
                due.thrown(wrong + " by rule " + rule, ARGUMENT, () -> x.seats(1, wrong, asked, 2));
                due.thrown(wrong + ", no votes", ARGUMENT, () -> x.seats(0, wrong, asked, 2));
            }
        }
    }

    private static void seatsRules() {
        due.part("22 'no such rule'");
        CountHouse x = new CountHouse();
        vote(x, 0, 1, 0, 0, 3);
        for (int wrong : new int[] {-1, 3, 4, Integer.MIN_VALUE, Integer.MAX_VALUE}) {
            due.thrown("rule " + wrong, ARGUMENT, () -> x.seats(1, 1, wrong, 2));
            due.thrown("rule " + wrong + ", no votes", ARGUMENT, () -> x.seats(0, 1, wrong, 2));
        }
        for (int rule = 0; rule < 3; rule++) {
            due.is("rule " + rule, x.seats(1, 1, rule, 2), 1);
        }
    }

    private static void seatsOfNoVotes() {
        due.part("22 '0 when all sums are 0'");
        CountHouse x = new CountHouse();
        x.precinct(0, 1, 50);
        x.version(0, 1, 9, 9);
        for (int rule = 0; rule < 3; rule++) {
            for (int n : new int[] {1, 1000}) {
                seatsAre(x, 0, n, rule, 0, 0, 0, 0, 0, 0);
                seatsAre(x, 1, n, rule, 0, 0, 0, 0, 0, 0);
            }
        }
        x.votes(5, 1);
        x.version(0, 2, 9, 10);
        for (int rule = 0; rule < 3; rule++) {
            seatsAre(x, 1, 7, rule, 0, 0, 0, 0, 0, 7);
        }
    }

    private static void seatsOfOneVote() {
        due.part("22 '0 when all sums are 0': one is 1");
        for (int rule = 0; rule < 3; rule++) {
            CountHouse x = new CountHouse();
            vote(x, 0, 1, 0, 0, 0, 1);
            due.is("the first that is asked", x.seats(1, 1000, rule, 3), 1000);
            seatsAre(x, 1, 1, rule, 0, 0, 0, 1, 0, 0);
        }
    }

    private static void seatsOneMoreThanItHas() {
        due.part("22 'rule 0: .. the greatest sum divided by one more than it has'");
        CountHouse x = new CountHouse();
        vote(x, 0, 1, 100, 80, 30, 20);
        // 100, 80, 50, 40, 33.3, 30, 26.7, 25, 20, 20 (option 0 / 5 before 1 / 4 before option 3).
        seatsAre(x, 1, 1, 0, 1, 0, 0, 0);
        seatsAre(x, 1, 2, 0, 1, 1, 0, 0);
        seatsAre(x, 1, 3, 0, 2, 1, 0, 0);
        seatsAre(x, 1, 4, 0, 2, 2, 0, 0);
        seatsAre(x, 1, 5, 0, 3, 2, 0, 0);
        seatsAre(x, 1, 6, 0, 3, 2, 1, 0);
        seatsAre(x, 1, 7, 0, 3, 3, 1, 0);
        seatsAre(x, 1, 8, 0, 4, 3, 1, 0);
        seatsAre(x, 1, 9, 0, 5, 3, 1, 0);
        seatsAre(x, 1, 10, 0, 5, 4, 1, 0);
        seatsAre(x, 1, 11, 0, 5, 4, 1, 1);
    }

    private static void seatsTwiceThatAndOneMore() {
        due.part("22 '1: by twice that, and one more'");
        CountHouse x = new CountHouse();
        vote(x, 0, 1, 100, 80, 30, 20);
        // 100, 80, 33.3, 30, 26.7, 20, 20, 16, 14.3: divided by 1, 3, 5, 7.
        seatsAre(x, 1, 1, 1, 1, 0, 0, 0);
        seatsAre(x, 1, 2, 1, 1, 1, 0, 0);
        seatsAre(x, 1, 3, 1, 2, 1, 0, 0);
        seatsAre(x, 1, 4, 1, 2, 1, 1, 0);
        seatsAre(x, 1, 5, 1, 2, 2, 1, 0);
        seatsAre(x, 1, 6, 1, 3, 2, 1, 0);
        seatsAre(x, 1, 7, 1, 3, 2, 1, 1);
        seatsAre(x, 1, 8, 1, 3, 3, 1, 1);
        seatsAre(x, 1, 9, 1, 4, 3, 1, 1);
    }

    private static void seatsDownwardThenRests() {
        due.part("22 '2: n times its sum divided by all, downward, then one each to the greatest rests'");
        CountHouse x = new CountHouse();
        vote(x, 0, 1, 47, 16, 16, 12, 6, 3);
        // Of 10: 4.7, 1.6, 1.6, 1.2, 0.6, 0.3.
        seatsAre(x, 1, 10, 2, 5, 2, 2, 1, 0, 0);
        seatsAre(x, 1, 100, 2, 47, 16, 16, 12, 6, 3);
        // Of 1: all below one; the greatest rest has it.
        seatsAre(x, 1, 1, 2, 1, 0, 0, 0, 0, 0);
        vote(x, 1, 2, 1, 0, 0, 0, 0, 999);
        // Of 500: 0.5 and 499.5, two rests that are the same.
        seatsAre(x, 2, 500, 2, 1, 0, 0, 0, 0, 499);
        seatsAre(x, 2, 499, 2, 0, 0, 0, 0, 0, 499);
        seatsAre(x, 2, 501, 2, 1, 0, 0, 0, 0, 500);
    }

    private static void seatsOfSeveralTheLeast() {
        due.part("22 'Of several the least option'");
        CountHouse x = new CountHouse();
        vote(x, 0, 1, 7, 7, 7, 7, 7, 7);
        for (int rule = 0; rule < 3; rule++) {
            seatsAre(x, 1, 1, rule, 1, 0, 0, 0, 0, 0);
            seatsAre(x, 1, 4, rule, 1, 1, 1, 1, 0, 0);
            seatsAre(x, 1, 6, rule, 1, 1, 1, 1, 1, 1);
            seatsAre(x, 1, 11, rule, 2, 2, 2, 2, 2, 1);
        }
        // 60 / 3 is 20 / 1; 60 / 2 is 30 / 1: the same quotients of different sums.
        vote(x, 1, 2, 0, 0, 20, 60);
        seatsAre(x, 2, 3, 0, 0, 0, 1, 2);
        seatsAre(x, 2, 2, 1, 0, 0, 1, 1);
        vote(x, 2, 3, 0, 0, 60, 30);
        seatsAre(x, 3, 2, 0, 0, 0, 2, 0);
    }

    private static void restOfNoLetters() {
        due.part("23 'Whether there are no letters'");
        CountHouse x = new CountHouse();
        due.is("a new object", x.isAtRest(), true);
        x.hang(1, 0);
        report(x, 0, 1, 1);
        x.twin(0);
        x.deliver(0);
        officeIs(x, 1, TAKEN, 1);
        due.is("one letter that nobody takes", x.isAtRest(), false);
        x.drop(0);
        due.is("none", x.isAtRest(), true);
        report(x, 1, 5, 1);
        due.is("versions of one that hangs nowhere", x.isAtRest(), true);
    }

    private static void restOfTakenChanges() {
        due.part("23 'all changes of lines are taken'");
        for (int c : new int[] {1, 11}) {
            CountHouse x = new CountHouse();
            x.hang(c, 0);
            due.is("an empty line", x.isAtRest(), true);
            report(x, 0, c, 1);
            report(x, 1, c, 1);
            x.deliver(0);
            x.drop(0);
            officeIs(x, c, LINE, 2);
            officeIs(x, c, TAKEN, 1);
            due.is("one is not taken", x.isAtRest(), false);
            x.resend(c);
            x.deliver(0);
            due.is("all are taken", x.isAtRest(), true);
            x.move(1, 5);
            x.drop(0);
            due.is("one to 0 is not taken", x.isAtRest(), false);
            x.fail(0);
            due.is("its line is empty", x.isAtRest(), true);
        }
    }

    private static void restOfNothingWaiting() {
        due.part("23 'and nothing waits'");
        CountHouse x = contested();
        x.deliver(1);
        x.drop(0);
        officeIs(x, 0, WAITING, 1);
        due.is("one waits", x.isAtRest(), false);
        x.resend(1);
        x.deliver(0);
        officeIs(x, 0, WAITING, 0);
        due.is("nothing waits", x.isAtRest(), true);
        x.move(0, 0);
        x.drop(0);
        officeIs(x, 0, WAITING, 1);
        due.is("an own one waits", x.isAtRest(), false);
        x.resend(2);
        x.deliver(0);
        due.is("nothing waits", x.isAtRest(), true);
    }

    private static void astrayNever() {
        due.part("24 'For how many offices what is shown is not what its parts are'");
        CountHouse x = contested();
        due.is("contested", x.astray(), 0);
        x.deliver(1);
        due.is("one waits", x.astray(), 0);
        x.move(0, 0);
        due.is("two wait", x.astray(), 0);
        x.hang(1, 2);
        due.is("taken away", x.astray(), 0);
        x.deliver(0);
        due.is("an old letter", x.astray(), 0);
        x.hang(2, 3);
        due.is("with what hangs below", x.astray(), 0);
        x.fail(3);
        due.is("its parent is down", x.astray(), 0);
        x.fail(0);
        due.is("the top is down", x.astray(), 0);
        due.is("a new object", new CountHouse().astray(), 0);
    }
}
