/** Each promise of the document: ordinary inputs, the edges that it names, and wrong inputs. */
public final class PromisesTest extends Cases {
    public static void main(String[] args) {
        newObject();
        precinct();
        votes();
        version();
        versionMarks();
        versionWaitsAsOwn();
        versionLimit();
        hang();
        hangTakesAway();
        hangLimit();
        fail();
        failLimit();
        revive();
        move();
        moveTries();
        moveOfOneThatWaits();
        deliver();
        deliverInOrderOnly();
        deliverOfOldEpochs();
        deliverWaits();
        deliverZero();
        deliverTriesInOrder();
        drop();
        twin();
        resend();
        fullPost();
        deliverAtFullPost();
        letters();
        letter();
        sum();
        included();
        through();
        held();
        marked();
        office();
        newest();
        seats();
        seatsOfSeveral();
        isAtRest();
        astray();
        due.end();
    }

    private static void newObject() {
        due.part("1 a new object");
        CountHouse x = new CountHouse();
        int[] fresh = {NONE, 0, 1, 0, 0, 0, 0, 0};
        for (int o = 0; o < 12; o++) {
            for (int what = 0; what < 8; what++) {
                officeIs(x, o, what, fresh[what]);
            }
        }
        for (int p = 0; p < 40; p++) {
            due.is("newest(" + p + ")", x.newest(p), NONE);
        }
        for (int option = 0; option < 6; option++) {
            due.is("votes(" + option + ", 0)", x.votes(option, 0), 0);
        }
        due.is("letters()", x.letters(), 0);
        due.is("isAtRest()", x.isAtRest(), true);
        due.is("astray()", x.astray(), 0);
    }

    private static void precinct() {
        due.part("2 precinct");
        CountHouse x = new CountHouse();
        for (int wrong : NOT_PRECINCTS) {
            thrownByPrecinct(x, INDEX, wrong, 0, -1);
        }
        for (int wrong : NOT_OFFICES) {
            thrownByPrecinct(x, INDEX, 0, wrong, -1);
        }
        for (int wrong : NOT_COUNTS) {
            thrownByPrecinct(x, ARGUMENT, 0, 0, wrong);
        }
        due.is("newest(0)", x.newest(0), NONE);
        x.precinct(0, 0, 0);
        x.precinct(39, 11, MANY);
        due.is("newest(0)", x.newest(0), 0);
        due.is("newest(39)", x.newest(39), 0);
        thrownByPrecinct(x, STATE, 0, 3, 7);
        thrownByPrecinct(x, ARGUMENT, 0, 3, -1);
        thrownByPrecinct(x, INDEX, 0, 12, 7);
        due.is("a register of 0, no ballots", x.version(0, 1, 0, 0), 0);
        due.is("a register of 0, one ballot", x.version(0, 2, 0, 1), 1);
        due.is("the greatest register", x.version(39, 1, 0, MANY), 0);
        shows(x, 0, 0, 2, 0);
        shows(x, 3, 0, 0, NONE);
        shows(x, 11, 39, 1, 11);
    }

    private static void votes() {
        due.part("3 votes");
        CountHouse x = new CountHouse();
        for (int option = 0; option < 6; option++) {
            due.is("votes, first", x.votes(option, option + 5), 0);
            due.is("votes, again", x.votes(option, MANY), option + 5);
        }
        for (int wrong : NOT_OPTIONS) {
            due.thrown("votes(" + wrong + ", -1)", INDEX, () -> x.votes(wrong, -1));
        }
        for (int wrong : NOT_COUNTS) {
            due.thrown("votes(0, " + wrong + ")", ARGUMENT, () -> x.votes(0, wrong));
        }
        due.is("votes(0, 0)", x.votes(0, 0), MANY);
        due.is("votes(0, 1)", x.votes(0, 1), 0);
    }

    private static void version() {
        due.part("4 version");
        CountHouse x = new CountHouse();
        x.precinct(7, 2, 100);
        x.votes(3, 9);
        for (int wrong : NOT_PRECINCTS) {
            due.thrown("version(" + wrong + ", 0, 0, 0)", INDEX, () -> x.version(wrong, 0, 0, 0));
        }
        due.thrown("version of one that is not there", INDEX, () -> x.version(8, 0, -1, -1));
        due.thrown("version 0", ARGUMENT, () -> x.version(7, 0, 0, 0));
        due.thrown("version -1", ARGUMENT, () -> x.version(7, -1, 0, 0));
        for (int wrong : NOT_COUNTS) {
            due.thrown("version, invalid " + wrong, ARGUMENT, () -> x.version(7, 1, wrong, 0));
            due.thrown("version, ballots " + wrong, ARGUMENT, () -> x.version(7, 1, 0, wrong));
        }
        due.is("newest(7)", x.newest(7), 0);
        due.is("the draft stands", x.votes(3, 9), 9);
        due.is("version 5", x.version(7, 5, 0, 9), 0);
        due.is("newest(7)", x.newest(7), 5);
        due.is("the draft is 0", x.votes(3, 9), 0);
        due.thrown("version 5 again", ARGUMENT, () -> x.version(7, 5, 0, 9));
        due.thrown("version 4", ARGUMENT, () -> x.version(7, 4, 0, 9));
        due.is("the draft stands", x.votes(3, 11), 9);
        due.is("the greatest version", x.version(7, Integer.MAX_VALUE, 0, 20), 0);
        shows(x, 2, 7, Integer.MAX_VALUE, 2);
        due.is("sum(2, 3)", x.sum(2, 3), 11);
        due.is("all greatest counts", greatest(x), 4);
        due.is("sum(3, 5)", x.sum(3, 5), MANY);
        x.fail(2);
        x.precinct(9, 2, 100);
        due.is("version at a home that is down", x.version(9, 1, 0, 0), 0);
        due.is("newest(9)", x.newest(9), 1);
        shows(x, 2, 9, 0, NONE);
    }

    private static int greatest(CountHouse x) {
        x.precinct(1, 3, MANY);
        for (int option = 0; option < 6; option++) {
            x.votes(option, MANY);
        }
        return x.version(1, 1, MANY, MANY);
    }

    private static void versionMarks() {
        due.part("4 marks");
        CountHouse x = new CountHouse();
        x.precinct(0, 0, 50);
        due.is("as many ballots as on the register", x.version(0, 1, 50, 50), 0);
        due.is("one more", x.version(0, 2, 50, 51), 1);
        x.votes(0, 20);
        x.votes(5, 20);
        due.is("as many votes as ballots", x.version(0, 3, 10, 50), 0);
        x.votes(0, 20);
        x.votes(5, 20);
        due.is("an invalid one more", x.version(0, 4, 11, 50), 4);
        x.votes(0, 21);
        x.votes(5, 19);
        due.is("less for option 5", x.version(0, 5, 10, 50), 2);
        x.votes(0, 20);
        x.votes(1, 90);
        due.is("all marks", x.version(0, 6, 0, 60), 7);
        x.precinct(1, 0, 50);
        due.is("another precinct has no version before", x.version(1, 1, 0, 0), 0);
        x.fail(0);
        x.votes(1, 89);
        due.is("less than a newest that nobody includes", x.version(0, 7, 0, 50), 6);
    }

    private static void versionWaitsAsOwn() {
        due.part("4 own versions wait");
        CountHouse x = new CountHouse();
        x.hang(1, 0);
        report(x, 0, 1, 10);
        x.deliver(0);
        due.is("move(0, 0)", x.move(0, 0), false);
        officeIs(x, 0, 4, 1);
        next(x, 0, 2, 20);
        officeIs(x, 0, 4, 1);
        shows(x, 0, 0, 1, 1);
        due.is("sum(0, 0)", x.sum(0, 0), 10);
        x.deliver(0);
        shows(x, 0, 0, 2, 0);
        due.is("sum(0, 0)", x.sum(0, 0), 20);
        officeIs(x, 0, 4, 0);
        next(x, 0, 3, 30);
        shows(x, 0, 0, 3, 0);
        officeIs(x, 0, 4, 0);
        due.is("letters()", x.letters(), 0);
    }

    private static void versionLimit() {
        due.part("4 the limit of versions");
        CountHouse x = new CountHouse();
        x.precinct(0, 0, 100);
        x.precinct(1, 1, 100);
        for (int v = 1; v <= 299; v++) {
            x.version(0, v, 0, 0);
        }
        due.is("the 300th", x.version(1, 1, 0, 0), 0);
        x.votes(2, 8);
        due.thrown("the 301st", LIMIT, () -> x.version(1, 2, 0, 0));
        due.thrown("the 301st, not above", ARGUMENT, () -> x.version(1, 1, 0, 0));
        due.thrown("the 301st, invalid", ARGUMENT, () -> x.version(1, 2, -1, 0));
        due.thrown("the 301st, no precinct", INDEX, () -> x.version(2, 2, 0, 0));
        due.is("newest(1)", x.newest(1), 1);
        due.is("newest(0)", x.newest(0), 299);
        due.is("the draft stands", x.votes(2, 8), 8);
    }

    private static void hang() {
        due.part("5 hang");
        CountHouse x = new CountHouse();
        for (int wrong : NOT_OFFICES) {
            due.thrown("hang(" + wrong + ", 0)", INDEX, () -> x.hang(wrong, 0));
            due.thrown("hang(0, " + wrong + ")", INDEX, () -> x.hang(0, wrong));
        }
        x.fail(9);
        due.thrown("hang(0, 1)", ARGUMENT, () -> x.hang(0, 1));
        due.thrown("hang(0, 9)", ARGUMENT, () -> x.hang(0, 9));
        due.thrown("hang(0, 0)", ARGUMENT, () -> x.hang(0, 0));
        due.thrown("hang(9, 9)", ARGUMENT, () -> x.hang(9, 9));
        due.thrown("hang(9, 1)", STATE, () -> x.hang(9, 1));
        due.thrown("hang(1, 9)", STATE, () -> x.hang(1, 9));
        due.is("hang(3, 2)", x.hang(3, 2), 1);
        due.is("hang(2, 1)", x.hang(2, 1), 1);
        due.thrown("under its child", STATE, () -> x.hang(1, 2));
        due.thrown("under its child's child", STATE, () -> x.hang(1, 3));
        officeIs(x, 1, 0, NONE);
        officeIs(x, 1, 1, 0);
        due.is("under the one above its parent", x.hang(3, 1), 2);
        due.is("under the same one", x.hang(3, 1), 3);
        officeIs(x, 3, 0, 1);
        officeIs(x, 3, 1, 3);
        officeIs(x, 1, 3, 2);
        officeIs(x, 2, 3, 0);

        report(x, 30, 3, 5);
        report(x, 4, 3, 6);
        x.precinct(17, 3, 9);
        due.is("letters()", x.letters(), 2);
        due.is("hang(3, 2)", x.hang(3, 2), 4);
        due.is("letters()", x.letters(), 4);
        letterIs(x, 0, 3, 3, 1, 30, 1);
        letterIs(x, 2, 3, 4, 1, 4, 1);
        letterIs(x, 3, 3, 4, 2, 30, 1);
        officeIs(x, 3, 5, 2);
        officeIs(x, 3, 6, 0);
    }

    private static void hangTakesAway() {
        due.part("5 taken away");
        CountHouse x = new CountHouse();
        x.hang(1, 0);
        x.hang(2, 1);
        x.hang(3, 1);
        report(x, 5, 2, 50);
        report(x, 3, 2, 30);
        report(x, 8, 2, 80);
        deliverAll(x);
        officeIs(x, 1, 5, 3);
        due.is("move(3, 3)", x.move(3, 3), true);
        due.is("move(8, 1)", x.move(8, 1), false);
        x.deliver(1);
        officeIs(x, 1, 4, 2);
        due.is("letters()", x.letters(), 2);
        x.drop(0);
        x.drop(0);
        // Office 2 goes: all it gave is out by precincts, then the own one, then that of office 3.
        due.is("hang(2, 0)", x.hang(2, 0), 2);
        due.is("letters()", x.letters(), 6);
        letterIs(x, 0, 1, 1, 4, 3, 0);
        letterIs(x, 1, 1, 1, 5, 5, 0);
        letterIs(x, 2, 1, 1, 6, 8, 0);
        letterIs(x, 3, 1, 1, 7, 8, 1);
        letterIs(x, 4, 1, 1, 8, 3, 1);
        letterIs(x, 5, 2, 2, 1, 5, 1);
        shows(x, 1, 3, 1, 3);
        shows(x, 1, 5, 0, NONE);
        shows(x, 1, 8, 1, 1);
        officeIs(x, 1, 4, 0);
        due.is("sum(1, 0)", x.sum(1, 0), 110);
        deliverAll(x);
        due.is("sum(0, 0)", x.sum(0, 0), 160);

        due.part("5 what waits is forgotten");
        CountHouse y = new CountHouse();
        y.hang(1, 0);
        y.hang(2, 0);
        report(y, 0, 1, 1);
        y.deliver(0);
        y.move(0, 2);
        y.deliver(1);
        officeIs(y, 0, 4, 1);
        y.hang(2, 1);
        officeIs(y, 0, 4, 0);
        y.deliver(0);
        shows(y, 0, 0, 0, NONE);
    }

    private static void hangLimit() {
        due.part("5 the limit of hangings");
        CountHouse x = new CountHouse();
        x.fail(5);
        for (int i = 1; i <= 60; i++) {
            due.is("hanging " + i, x.hang(3, i % 2), i);
        }
        due.thrown("the 61st", LIMIT, () -> x.hang(4, 0));
        due.thrown("the 61st, of 0", ARGUMENT, () -> x.hang(0, 1));
        due.thrown("the 61st, down", STATE, () -> x.hang(4, 5));
        due.thrown("the 61st, no office", INDEX, () -> x.hang(4, 12));
        officeIs(x, 4, 0, NONE);
        officeIs(x, 3, 0, 0);
        officeIs(x, 3, 1, 60);
    }

    private static void fail() {
        due.part("6 fail");
        CountHouse x = new CountHouse();
        for (int wrong : NOT_OFFICES) {
            due.thrown("fail(" + wrong + ")", INDEX, () -> x.fail(wrong));
        }
        x.hang(1, 0);
        x.hang(2, 1);
        x.hang(3, 1);
        x.hang(4, 0);
        report(x, 0, 1, 1);
        report(x, 1, 2, 2);
        report(x, 2, 4, 4);
        deliverAll(x);
        report(x, 3, 2, 8);
        x.move(2, 1);
        due.is("sum(0, 0)", x.sum(0, 0), 7);
        due.is("fail(1)", x.fail(1), 2);
        due.thrown("fail(1)", STATE, () -> x.fail(1));
        int[] down = {NONE, 1, 0, 0, 0, 0, 0, 0};
        for (int what = 0; what < 8; what++) {
            officeIs(x, 1, what, down[what]);
        }
        officeIs(x, 2, 0, NONE);
        officeIs(x, 3, 0, NONE);
        officeIs(x, 2, 5, 0);
        officeIs(x, 2, 6, 0);
        officeIs(x, 2, 7, 2);
        officeIs(x, 0, 3, 1);
        shows(x, 0, 0, 0, NONE);
        shows(x, 0, 2, 1, 4);
        due.is("sum(0, 0)", x.sum(0, 0), 4);
        due.is("letters() of before", x.letters(), 3);
        due.is("a letter of one that hangs nowhere", x.deliver(0), false);
        due.is("fail(0)", x.fail(0), 1);
        due.is("fail(11)", x.fail(11), 0);

        due.part("6 the parent tries");
        CountHouse y = new CountHouse();
        y.hang(1, 0);
        y.hang(2, 0);
        report(y, 0, 1, 1);
        y.deliver(0);
        y.move(0, 2);
        y.deliver(1);
        shows(y, 0, 0, 1, 1);
        y.fail(1);
        shows(y, 0, 0, 1, 2);
        officeIs(y, 0, 4, 0);

        due.part("6 nothing waits");
        CountHouse z = new CountHouse();
        z.hang(1, 0);
        report(z, 0, 1, 1);
        z.deliver(0);
        z.move(0, 0);
        officeIs(z, 0, 4, 1);
        z.fail(0);
        officeIs(z, 0, 4, 0);
        z.drop(0);
        due.is("isAtRest()", z.isAtRest(), true);
    }

    private static void failLimit() {
        due.part("6 the limit of failures");
        CountHouse x = new CountHouse();
        for (int i = 0; i < 30; i++) {
            x.fail(i % 12);
            x.revive(i % 12);
        }
        due.thrown("the 31st", LIMIT, () -> x.fail(0));
        due.thrown("the 31st, no office", INDEX, () -> x.fail(12));
        officeIs(x, 0, 2, 1);
        CountHouse y = new CountHouse();
        for (int i = 0; i < 29; i++) {
            y.fail(1);
            y.revive(1);
        }
        y.fail(2);
        due.thrown("the 31st, down", STATE, () -> y.fail(2));
        due.thrown("the 31st, up", LIMIT, () -> y.fail(1));
    }

    private static void revive() {
        due.part("7 revive");
        CountHouse x = new CountHouse();
        for (int wrong : NOT_OFFICES) {
            due.thrown("revive(" + wrong + ")", INDEX, () -> x.revive(wrong));
        }
        due.thrown("revive(1)", STATE, () -> x.revive(1));
        report(x, 0, 1, 1);
        report(x, 1, 1, 2);
        report(x, 2, 2, 4);
        report(x, 3, 1, 8);
        x.precinct(4, 1, 10);
        x.fail(1);
        next(x, 0, 9, 16);
        x.move(1, 2);
        due.is("revive(1)", x.revive(1), 2);
        due.thrown("revive(1)", STATE, () -> x.revive(1));
        shows(x, 1, 0, 9, 1);
        shows(x, 1, 1, 0, NONE);
        shows(x, 1, 2, 0, NONE);
        shows(x, 1, 3, 1, 1);
        shows(x, 1, 4, 0, NONE);
        due.is("sum(1, 0)", x.sum(1, 0), 24);
        officeIs(x, 1, 0, NONE);
        officeIs(x, 1, 2, 1);
        officeIs(x, 1, 5, 0);
        officeIs(x, 1, 7, 2);
        due.is("letters()", x.letters(), 0);
        due.is("hang(1, 2)", x.hang(1, 2), 1);
        due.is("letters()", x.letters(), 2);
    }

    private static void move() {
        due.part("8 move");
        CountHouse x = new CountHouse();
        x.hang(1, 0);
        x.hang(2, 0);
        for (int wrong : NOT_PRECINCTS) {
            due.thrown("move(" + wrong + ", 1)", INDEX, () -> x.move(wrong, 1));
        }
        due.thrown("move of one that is not there", INDEX, () -> x.move(0, 1));
        report(x, 0, 1, 1);
        for (int wrong : NOT_OFFICES) {
            due.thrown("move(0, " + wrong + ")", INDEX, () -> x.move(0, wrong));
        }
        due.thrown("move(0, 1)", STATE, () -> x.move(0, 1));
        due.is("move(0, 2)", x.move(0, 2), true);
        shows(x, 1, 0, 0, NONE);
        shows(x, 2, 0, 1, 2);
        due.is("letters()", x.letters(), 3);
        letterIs(x, 1, 1, 1, 2, 0, 0);
        letterIs(x, 2, 2, 1, 1, 0, 1);
        due.thrown("move(0, 2)", STATE, () -> x.move(0, 2));
        x.precinct(1, 1, 10);
        due.is("without a version", x.move(1, 2), false);
        x.version(1, 1, 0, 0);
        shows(x, 2, 1, 1, 2);
        x.fail(3);
        due.is("to one that is down", x.move(0, 3), false);
        shows(x, 2, 0, 0, NONE);
        due.is("from one that is down", x.move(0, 4), true);
        shows(x, 4, 0, 1, 4);
        due.is("revive(3)", x.revive(3), 0);
    }

    private static void moveTries() {
        due.part("8 the old home tries");
        CountHouse x = new CountHouse();
        x.hang(1, 0);
        x.hang(2, 1);
        report(x, 0, 1, 1);
        x.deliver(0);
        x.move(0, 2);
        // Office 1 gave it up, office 2 tells it, office 1 includes it through office 2.
        x.deliver(1);
        shows(x, 1, 0, 1, 2);
        due.is("back: it waits", x.move(0, 1), false);
        officeIs(x, 1, 4, 1);
        deliverAll(x);
        shows(x, 1, 0, 1, 1);
        x.move(0, 3);
        x.hang(3, 1);
        x.deliver(1);
        shows(x, 1, 0, 1, 3);
        deliverAll(x);

        CountHouse y = new CountHouse();
        y.hang(1, 0);
        y.hang(2, 1);
        y.hang(3, 0);
        report(y, 0, 2, 1);
        y.move(0, 1);
        // A late letter of office 2 waits behind the own one of office 1.
        y.deliver(0);
        shows(y, 1, 0, 1, 1);
        officeIs(y, 1, 4, 1);
        due.is("letters()", y.letters(), 2);
        due.is("move(0, 3)", y.move(0, 3), true);
        shows(y, 1, 0, 1, 2);
        officeIs(y, 1, 4, 0);
        due.is("letters()", y.letters(), 5);
        letterIs(y, 0, 2, 1, 2, 0, 0);
        letterIs(y, 1, 1, 1, 1, 0, 1);
        letterIs(y, 2, 1, 1, 2, 0, 0);
        letterIs(y, 3, 1, 1, 3, 0, 1);
        letterIs(y, 4, 3, 1, 1, 0, 1);
    }

    private static void moveOfOneThatWaits() {
        due.part("8 it waits no more at the old home");
        CountHouse x = new CountHouse();
        x.hang(1, 0);
        report(x, 0, 1, 1);
        x.deliver(0);
        x.move(0, 0);
        officeIs(x, 0, 4, 1);
        due.is("move(0, 2)", x.move(0, 2), true);
        officeIs(x, 0, 4, 0);
        shows(x, 0, 0, 1, 1);
        deliverAll(x);
        shows(x, 0, 0, 0, NONE);
        due.is("isAtRest()", x.isAtRest(), true);
    }

    private static void deliver() {
        due.part("9 deliver");
        CountHouse x = new CountHouse();
        due.thrown("deliver(0)", INDEX, () -> x.deliver(0));
        x.hang(1, 0);
        report(x, 0, 1, 1);
        report(x, 1, 1, 2);
        due.thrown("deliver(-1)", INDEX, () -> x.deliver(-1));
        due.thrown("deliver(2)", INDEX, () -> x.deliver(2));
        due.is("letters()", x.letters(), 2);
        due.is("deliver(0)", x.deliver(0), true);
        due.is("letters()", x.letters(), 1);
        letterIs(x, 0, 1, 1, 2, 1, 1);
        shows(x, 0, 0, 1, 1);
        shows(x, 0, 1, 0, NONE);
        next(x, 0, 2, 5);
        due.is("deliver(0)", x.deliver(0), true);
        due.is("deliver(0)", x.deliver(0), true);
        shows(x, 0, 0, 2, 1);
        due.is("sum(0, 0)", x.sum(0, 0), 7);
        officeIs(x, 1, 6, 3);
        officeIs(x, 1, 5, 3);
        x.hang(2, 1);
        report(x, 2, 2, 10);
        due.is("deliver(0)", x.deliver(0), true);
        due.is("told further", x.letters(), 1);
        letterIs(x, 0, 1, 1, 4, 2, 1);
    }

    private static void deliverInOrderOnly() {
        due.part("9 in order only");
        CountHouse x = new CountHouse();
        x.hang(1, 0);
        for (int p = 0; p < 4; p++) {
            report(x, p, 1, 1);
        }
        x.twin(0);
        due.is("the second first", x.deliver(1), false);
        due.is("the first", x.deliver(0), true);
        due.is("the third, for the second is lost", x.deliver(0), false);
        due.is("the first once more", x.deliver(1), false);
        officeIs(x, 0, 7, 1);
        officeIs(x, 1, 6, 1);
        due.is("letters()", x.letters(), 1);
        due.is("resend(1)", x.resend(1), 3);
        due.is("the fourth", x.deliver(0), false);
        deliverAll(x);
        officeIs(x, 0, 7, 4);
        officeIs(x, 1, 6, 4);
    }

    private static void deliverOfOldEpochs() {
        due.part("9 old epochs");
        CountHouse x = new CountHouse();
        x.hang(1, 0);
        report(x, 0, 1, 1);
        x.hang(1, 0);
        due.is("of the epoch before", x.deliver(0), false);
        officeIs(x, 0, 7, 0);
        due.is("of this epoch", x.deliver(0), true);
        next(x, 0, 2, 2);
        x.hang(1, 2);
        due.is("number 2 of the epoch before", x.deliver(0), false);
        due.is("number 1 of this one", x.deliver(0), true);
        shows(x, 2, 0, 2, 1);
        shows(x, 0, 0, 0, NONE);
        next(x, 0, 3, 3);
        x.fail(2);
        due.is("it hangs nowhere", x.deliver(0), false);
        shows(x, 2, 0, 0, NONE);
        officeIs(x, 1, 6, 0);
    }

    private static void deliverWaits() {
        due.part("9 what waits");
        CountHouse x = new CountHouse();
        x.hang(1, 0);
        x.hang(2, 0);
        report(x, 0, 1, 10);
        x.deliver(0);
        x.move(0, 2);
        report(x, 1, 2, 20);
        next(x, 0, 2, 30);
        next(x, 1, 2, 40);
        // The letters: office 1 without precinct 0; office 2 with 0, 1, 0 again, 1 again.
        due.is("letters()", x.letters(), 5);
        for (int i = 1; i <= 4; i++) {
            due.is("taken, to wait", x.deliver(1), true);
            officeIs(x, 0, 4, i);
        }
        shows(x, 0, 0, 1, 1);
        shows(x, 0, 1, 0, NONE);
        officeIs(x, 2, 6, 4);
        due.is("deliver(0)", x.deliver(0), true);
        shows(x, 0, 0, 2, 2);
        shows(x, 0, 1, 2, 2);
        officeIs(x, 0, 4, 0);
        due.is("sum(0, 0)", x.sum(0, 0), 70);

        due.part("9 each that waited is told");
        CountHouse y = new CountHouse();
        y.hang(3, 4);
        y.hang(1, 3);
        y.hang(2, 3);
        report(y, 0, 1, 10);
        y.deliver(0);
        y.drop(0);
        y.move(0, 2);
        next(y, 0, 2, 30);
        y.deliver(1);
        y.deliver(1);
        y.deliver(0);
        due.is("letters()", y.letters(), 3);
        letterIs(y, 0, 3, 1, 2, 0, 0);
        letterIs(y, 1, 3, 1, 3, 0, 1);
        letterIs(y, 2, 3, 1, 4, 0, 2);
    }

    private static void deliverZero() {
        due.part("9 a change to 0");
        CountHouse x = new CountHouse();
        x.hang(1, 0);
        x.hang(2, 0);
        report(x, 0, 1, 10);
        x.deliver(0);
        x.move(0, 2);
        x.drop(0);
        report(x, 1, 2, 20);
        next(x, 0, 2, 30);
        x.move(0, 3);
        x.deliver(0);
        x.deliver(0);
        x.deliver(0);
        officeIs(x, 0, 4, 3);
        // Precinct 0 stays included through office 1; of office 2 only precinct 1 is left, and goes.
        due.is("deliver(0)", x.deliver(0), true);
        officeIs(x, 0, 4, 0);
        shows(x, 0, 0, 1, 1);
        shows(x, 0, 1, 1, 2);
        due.is("resend(1)", x.resend(1), 1);
        due.is("deliver(0)", x.deliver(0), true);
        shows(x, 0, 0, 0, NONE);
        due.is("isAtRest()", x.isAtRest(), true);
    }

    private static void deliverTriesInOrder() {
        due.part("9 own ones first, then children by numbers");
        CountHouse x = new CountHouse();
        x.hang(5, 0);
        x.hang(3, 0);
        x.hang(2, 0);
        report(x, 0, 5, 10);
        x.deliver(0);
        x.move(0, 3);
        x.move(0, 2);
        x.move(0, 0);
        // The letters: 5 without; 3 with; 3 without; 2 with; 2 without.
        x.deliver(3);
        x.deliver(1);
        officeIs(x, 0, 4, 3);
        x.deliver(0);
        shows(x, 0, 0, 1, 0);
        officeIs(x, 0, 4, 2);
        x.move(0, 7);
        shows(x, 0, 0, 1, 2);
        officeIs(x, 0, 4, 1);
        x.deliver(1);
        shows(x, 0, 0, 1, 3);
        x.deliver(0);
        shows(x, 0, 0, 0, NONE);
        officeIs(x, 0, 4, 0);
    }

    private static void drop() {
        due.part("10 drop");
        CountHouse x = new CountHouse();
        due.thrown("drop(0)", INDEX, () -> x.drop(0));
        x.hang(1, 0);
        for (int p = 0; p < 3; p++) {
            report(x, p, 1, 1);
        }
        due.thrown("drop(-1)", INDEX, () -> x.drop(-1));
        due.thrown("drop(3)", INDEX, () -> x.drop(3));
        due.is("drop(1)", x.drop(1), 2);
        letterIs(x, 0, 1, 1, 1, 0, 1);
        letterIs(x, 1, 1, 1, 3, 2, 1);
        due.is("drop(1)", x.drop(1), 1);
        due.is("drop(0)", x.drop(0), 0);
        officeIs(x, 0, 7, 0);
        officeIs(x, 1, 6, 0);
        officeIs(x, 1, 5, 3);
    }

    private static void twin() {
        due.part("11 twin");
        CountHouse x = new CountHouse();
        due.thrown("twin(0)", INDEX, () -> x.twin(0));
        x.hang(1, 0);
        report(x, 0, 1, 1);
        report(x, 1, 1, 1);
        due.thrown("twin(-1)", INDEX, () -> x.twin(-1));
        due.thrown("twin(2)", INDEX, () -> x.twin(2));
        due.is("twin(0)", x.twin(0), 3);
        letterIs(x, 0, 1, 1, 1, 0, 1);
        letterIs(x, 1, 1, 1, 2, 1, 1);
        letterIs(x, 2, 1, 1, 1, 0, 1);
        due.is("the twin", x.deliver(2), true);
        due.is("the first one", x.deliver(0), false);
        officeIs(x, 1, 5, 2);
        x.hang(1, 2);
        due.is("a twin of an old epoch", x.twin(0), 4);
        letterIs(x, 3, 1, 1, 2, 1, 1);
    }

    private static void resend() {
        due.part("12 resend");
        CountHouse x = new CountHouse();
        for (int wrong : NOT_OFFICES) {
            due.thrown("resend(" + wrong + ")", INDEX, () -> x.resend(wrong));
        }
        due.thrown("resend(1)", STATE, () -> x.resend(1));
        x.hang(1, 0);
        due.is("nothing to tell", x.resend(1), 0);
        for (int p = 0; p < 3; p++) {
            report(x, p, 1, 1);
        }
        next(x, 0, 2, 3);
        x.deliver(0);
        due.is("resend(1)", x.resend(1), 3);
        due.is("letters()", x.letters(), 6);
        letterIs(x, 3, 1, 1, 2, 1, 1);
        letterIs(x, 4, 1, 1, 3, 2, 1);
        letterIs(x, 5, 1, 1, 4, 0, 2);
        deliverAll(x);
        due.is("all are taken", x.resend(1), 0);
        x.fail(0);
        due.thrown("resend(1)", STATE, () -> x.resend(1));
        x.fail(1);
        due.thrown("resend of one that is down", STATE, () -> x.resend(1));
    }

    /** 40 precincts at office 1, which hangs 13 times: 520 changes are told, 500 letters there. */
    private static CountHouse withFullPost() {
        CountHouse x = new CountHouse();
        for (int p = 0; p < 40; p++) {
            report(x, p, 1, p);
        }
        for (int i = 0; i < 13; i++) {
            x.hang(1, 0);
        }
        return x;
    }

    private static void fullPost() {
        due.part("5, 9, 11, 12 at 500 letters");
        CountHouse x = withFullPost();
        due.is("letters()", x.letters(), 500);
        officeIs(x, 1, 5, 40);
        letterIs(x, 499, 1, 13, 20, 19, 1);
        due.thrown("twin(0)", STATE, () -> x.twin(0));
        due.thrown("twin(500)", INDEX, () -> x.twin(500));
        due.is("resend(1)", x.resend(1), 0);
        due.is("drop(0)", x.drop(0), 499);
        due.is("twin(0)", x.twin(0), 500);
        x.drop(499);
        due.is("room for one", x.resend(1), 1);
        letterIs(x, 499, 1, 13, 1, 0, 1);
        x.drop(0);
        next(x, 0, 2, 77);
        letterIs(x, 499, 1, 13, 41, 0, 2);
        next(x, 1, 2, 77);
        officeIs(x, 1, 5, 42);
        due.is("a change that is not sent", x.letters(), 500);
    }

    private static void deliverAtFullPost() {
        due.part("9 a letter that is delivered makes room for what it brings");
        CountHouse x = new CountHouse();
        x.hang(3, 4);
        x.hang(2, 3);
        report(x, 39, 2, 5);
        for (int p = 0; p < 39; p++) {
            report(x, p, 1, p);
        }
        for (int i = 0; i < 13; i++) {
            x.hang(1, 0);
        }
        due.is("letters()", x.letters(), 500);
        due.is("deliver(0)", x.deliver(0), true);
        due.is("letters()", x.letters(), 500);
        letterIs(x, 499, 3, 1, 1, 39, 1);
    }

    private static void letters() {
        due.part("13 letters");
        CountHouse x = new CountHouse();
        report(x, 0, 1, 1);
        due.is("one that hangs nowhere sends none", x.letters(), 0);
        x.hang(1, 0);
        due.is("letters()", x.letters(), 1);
        next(x, 0, 2, 2);
        due.is("letters()", x.letters(), 2);
        x.twin(1);
        due.is("letters()", x.letters(), 3);
        x.drop(1);
        due.is("letters()", x.letters(), 2);
        x.deliver(0);
        due.is("letters()", x.letters(), 1);
        x.fail(1);
        due.is("a letter stays when its office is down", x.letters(), 1);
    }

    private static void letter() {
        due.part("14 letter");
        CountHouse x = new CountHouse();
        due.thrown("letter(0, 9)", INDEX, () -> x.letter(0, 9));
        x.hang(7, 4);
        x.hang(7, 3);
        report(x, 21, 7, 1);
        next(x, 21, 33, 1);
        x.move(21, 5);
        letterIs(x, 0, 7, 2, 1, 21, 1);
        letterIs(x, 1, 7, 2, 2, 21, 33);
        letterIs(x, 2, 7, 2, 3, 21, 0);
        for (int wrong : new int[] {-1, 5, Integer.MIN_VALUE, Integer.MAX_VALUE}) {
            due.thrown("letter(0, " + wrong + ")", ARGUMENT, () -> x.letter(0, wrong));
            due.thrown("letter(3, " + wrong + ")", INDEX, () -> x.letter(3, wrong));
        }
        due.thrown("letter(-1, 0)", INDEX, () -> x.letter(-1, 0));
        x.hang(7, 4);
        letterIs(x, 0, 7, 2, 1, 21, 1);
        x.fail(7);
        letterIs(x, 1, 7, 2, 2, 21, 33);
    }

    private static void sum() {
        due.part("15 sum");
        CountHouse x = new CountHouse();
        for (int wrong : NOT_OFFICES) {
            due.thrown("sum(" + wrong + ", 0)", INDEX, () -> x.sum(wrong, 0));
        }
        for (int wrong : NOT_OPTIONS) {
            due.thrown("sum(0, " + wrong + ")", INDEX, () -> x.sum(0, wrong));
        }
        x.hang(1, 0);
        for (int p = 0; p < 3; p++) {
            x.precinct(p, p % 2, 1000);
            for (int option = 0; option < 6; option++) {
                x.votes(option, (p + 1) * (option + 1));
            }
            x.version(p, 1, 900, 1000);
        }
        for (int option = 0; option < 6; option++) {
            due.is("sum(0, " + option + ")", x.sum(0, option), 4 * (option + 1));
            due.is("sum(1, " + option + ")", x.sum(1, option), 2 * (option + 1));
        }
        x.deliver(0);
        due.is("sum(0, 5)", x.sum(0, 5), 36);
        x.version(1, 2, 0, 0);
        due.is("sum(1, 5)", x.sum(1, 5), 0);
        due.is("sum(0, 5), not told yet", x.sum(0, 5), 36);
        x.deliver(0);
        due.is("sum(0, 5)", x.sum(0, 5), 24);
        for (int p = 10; p < 40; p++) {
            x.precinct(p, 2, MANY);
            x.votes(4, MANY);
            x.version(p, 1, 0, MANY);
        }
        due.is("sum(2, 4)", x.sum(2, 4), 30L * MANY);
    }

    private static void included() {
        due.part("16 included");
        CountHouse x = new CountHouse();
        for (int wrong : NOT_OFFICES) {
            due.thrown("included(" + wrong + ", 0)", INDEX, () -> x.included(wrong, 0));
        }
        for (int wrong : NOT_PRECINCTS) {
            due.thrown("included(0, " + wrong + ")", INDEX, () -> x.included(0, wrong));
        }
        due.is("of one that is not there yet", x.included(0, 39), 0);
        x.precinct(39, 1, 10);
        due.is("before a version", x.included(1, 39), 0);
        x.version(39, 12, 0, 0);
        due.is("included(1, 39)", x.included(1, 39), 12);
        due.is("included(0, 39)", x.included(0, 39), 0);
        x.hang(1, 0);
        x.deliver(0);
        due.is("included(0, 39)", x.included(0, 39), 12);
    }

    private static void through() {
        due.part("17 through");
        CountHouse x = new CountHouse();
        for (int wrong : NOT_OFFICES) {
            due.thrown("through(" + wrong + ", 0)", INDEX, () -> x.through(wrong, 0));
        }
        for (int wrong : NOT_PRECINCTS) {
            due.thrown("through(0, " + wrong + ")", INDEX, () -> x.through(0, wrong));
        }
        due.is("of one that is not there yet", x.through(0, 39), NONE);
        x.hang(1, 0);
        x.hang(2, 1);
        report(x, 39, 2, 1);
        due.is("before it is told", x.through(1, 39), NONE);
        deliverAll(x);
        due.is("through(2, 39)", x.through(2, 39), 2);
        due.is("through(1, 39)", x.through(1, 39), 2);
        due.is("through(0, 39)", x.through(0, 39), 1);
        x.fail(2);
        due.is("through(2, 39)", x.through(2, 39), NONE);
        due.is("through(1, 39)", x.through(1, 39), NONE);
    }

    private static void held() {
        due.part("18 held");
        CountHouse x = new CountHouse();
        for (int wrong : NOT_OFFICES) {
            due.thrown("held(" + wrong + ", 0, 0)", INDEX, () -> x.held(wrong, 0, 0));
            due.thrown("held(0, " + wrong + ", 0)", INDEX, () -> x.held(0, wrong, 0));
        }
        for (int wrong : NOT_OPTIONS) {
            due.thrown("held(0, 1, " + wrong + ")", INDEX, () -> x.held(0, 1, wrong));
        }
        x.hang(1, 0);
        x.hang(2, 0);
        report(x, 0, 1, 1);
        report(x, 1, 1, 2);
        report(x, 2, 2, 4);
        report(x, 3, 0, 8);
        due.is("held(0, 1, 0), not told yet", x.held(0, 1, 0), 0);
        deliverAll(x);
        due.is("held(0, 1, 0)", x.held(0, 1, 0), 3);
        due.is("held(0, 1, 1)", x.held(0, 1, 1), 0);
        due.is("held(0, 2, 0)", x.held(0, 2, 0), 4);
        due.is("held(0, 3, 0)", x.held(0, 3, 0), 0);
        due.is("held(1, 0, 0)", x.held(1, 0, 0), 0);
        due.is("an office is no child of itself", x.held(0, 0, 0), 0);
        x.hang(1, 2);
        due.is("held(0, 1, 0)", x.held(0, 1, 0), 0);
        deliverAll(x);
        due.is("held(2, 1, 0)", x.held(2, 1, 0), 3);
        due.is("held(0, 2, 0)", x.held(0, 2, 0), 7);
    }

    private static void marked() {
        due.part("19 marked");
        CountHouse x = new CountHouse();
        for (int wrong : NOT_OFFICES) {
            due.thrown("marked(" + wrong + ")", INDEX, () -> x.marked(wrong));
        }
        x.hang(1, 0);
        for (int p = 0; p < 4; p++) {
            x.precinct(p, 1, 10);
        }
        due.is("marked(1)", x.marked(1), 0);
        x.version(0, 1, 0, 11);
        x.version(1, 1, 1, 0);
        x.version(2, 1, 2, 11);
        x.version(3, 1, 0, 10);
        due.is("marked(1)", x.marked(1), 3);
        due.is("marked(0)", x.marked(0), 0);
        deliverAll(x);
        due.is("marked(0)", x.marked(0), 3);
        x.version(0, 2, 0, 10);
        due.is("marked(1)", x.marked(1), 2);
        due.is("marked(0)", x.marked(0), 3);
        x.votes(3, 1);
        x.version(3, 2, 0, 10);
        due.is("marked(1)", x.marked(1), 2);
        x.version(3, 3, 0, 10);
        due.is("marked(1)", x.marked(1), 3);
    }

    private static void office() {
        due.part("20 office");
        CountHouse x = new CountHouse();
        for (int wrong : NOT_OFFICES) {
            due.thrown("office(" + wrong + ", 9)", INDEX, () -> x.office(wrong, 9));
        }
        for (int wrong : new int[] {-1, 8, Integer.MIN_VALUE, Integer.MAX_VALUE}) {
            due.thrown("office(0, " + wrong + ")", ARGUMENT, () -> x.office(0, wrong));
        }
        x.hang(1, 4);
        x.hang(1, 3);
        x.hang(2, 1);
        x.hang(5, 1);
        x.hang(6, 5);
        report(x, 0, 2, 1);
        report(x, 1, 1, 1);
        report(x, 2, 1, 1);
        x.deliver(0);
        x.deliver(0);
        x.move(0, 1);
        x.move(0, 5);
        x.deliver(3);
        x.move(0, 1);
        // Precinct 0 is included through office 2; it waits from office 5, and as own one.
        int[] want = {3, 2, 1, 2, 2, 3, 1, 3};
        for (int what = 0; what < 8; what++) {
            officeIs(x, 1, what, want[what]);
        }
        officeIs(x, 3, 4, 0);
        officeIs(x, 5, 4, 0);
        x.fail(11);
        officeIs(x, 11, 2, 0);
        x.revive(11);
        officeIs(x, 11, 2, 1);
    }

    private static void newest() {
        due.part("21 newest");
        CountHouse x = new CountHouse();
        for (int wrong : NOT_PRECINCTS) {
            due.thrown("newest(" + wrong + ")", INDEX, () -> x.newest(wrong));
        }
        due.is("newest(39)", x.newest(39), NONE);
        x.precinct(39, 2, 10);
        due.is("newest(39)", x.newest(39), 0);
        x.version(39, 6, 0, 0);
        due.is("newest(39)", x.newest(39), 6);
        x.fail(2);
        due.is("newest(39)", x.newest(39), 6);
        x.version(39, 8, 0, 0);
        due.is("newest(39)", x.newest(39), 8);
        x.move(39, 3);
        due.is("newest(39)", x.newest(39), 8);
    }

    private static void seats() {
        due.part("22 seats");
        CountHouse x = new CountHouse();
        for (int wrong : NOT_OFFICES) {
            due.thrown("seats of office " + wrong, INDEX, () -> x.seats(wrong, 0, 3, 0));
        }
        for (int wrong : NOT_OPTIONS) {
            due.thrown("seats of option " + wrong, INDEX, () -> x.seats(0, 0, 3, wrong));
        }
        for (int wrong : new int[] {0, 1001, -1, Integer.MIN_VALUE, Integer.MAX_VALUE}) {
            due.thrown("seats, n " + wrong, ARGUMENT, () -> x.seats(0, wrong, 0, 0));
        }
        for (int wrong : new int[] {-1, 3, Integer.MIN_VALUE, Integer.MAX_VALUE}) {
            due.thrown("seats, rule " + wrong, ARGUMENT, () -> x.seats(0, 1, wrong, 0));
        }
        for (int rule = 0; rule < 3; rule++) {
            seatsAre(x, 0, 1000, rule, 0, 0, 0, 0, 0, 0);
        }
        vote(x, 0, 1, 53, 24, 23);
        seatsAre(x, 1, 7, 0, 4, 2, 1, 0, 0, 0);
        seatsAre(x, 1, 7, 1, 3, 2, 2, 0, 0, 0);
        seatsAre(x, 1, 7, 2, 4, 2, 1, 0, 0, 0);
        vote(x, 1, 2, 0, 340, 280, 160, 60, 15);
        seatsAre(x, 2, 7, 0, 0, 3, 3, 1, 0, 0);
        seatsAre(x, 2, 7, 1, 0, 3, 2, 1, 1, 0);
        seatsAre(x, 2, 7, 2, 0, 3, 2, 1, 1, 0);
        seatsAre(x, 2, 1, 0, 0, 1, 0, 0, 0, 0);
        vote(x, 2, 3, 0, 0, 0, 0, 0, 1);
        for (int rule = 0; rule < 3; rule++) {
            seatsAre(x, 3, 1000, rule, 0, 0, 0, 0, 0, 1000);
        }
    }

    private static void seatsOfSeveral() {
        due.part("22 of several the least option");
        CountHouse x = new CountHouse();
        vote(x, 0, 1, 0, 5, 5, 5);
        for (int rule = 0; rule < 3; rule++) {
            seatsAre(x, 1, 1, rule, 0, 1, 0, 0);
            seatsAre(x, 1, 2, rule, 0, 1, 1, 0);
            seatsAre(x, 1, 4, rule, 0, 2, 1, 1);
            seatsAre(x, 1, 1000, rule, 0, 334, 333, 333);
        }
        // 60 / 3 and 20 / 1 are the same: the least option has the third seat.
        vote(x, 1, 2, 20, 60);
        seatsAre(x, 2, 3, 0, 1, 2);
        seatsAre(x, 2, 2, 1, 1, 1);
        // Quotients that rounding to whole numbers would make the same: 7 / 2 is above 3.
        vote(x, 2, 3, 3, 7);
        seatsAre(x, 3, 2, 0, 0, 2);
        for (int p = 4; p < 14; p++) {
            vote(x, p, 4, MANY, MANY - 1, MANY, 0, 0, MANY);
        }
        seatsAre(x, 4, 1000, 0, 250, 250, 250, 0, 0, 250);
        seatsAre(x, 4, 1000, 1, 250, 250, 250, 0, 0, 250);
        seatsAre(x, 4, 999, 2, 250, 249, 250, 0, 0, 250);
    }

    private static void isAtRest() {
        due.part("23 isAtRest");
        CountHouse x = new CountHouse();
        x.hang(1, 0);
        due.is("a line without changes", x.isAtRest(), true);
        report(x, 0, 1, 1);
        due.is("a letter", x.isAtRest(), false);
        x.drop(0);
        due.is("a change that is not taken", x.isAtRest(), false);
        x.resend(1);
        x.twin(0);
        x.deliver(0);
        due.is("a letter that does nothing", x.isAtRest(), false);
        x.deliver(0);
        due.is("isAtRest()", x.isAtRest(), true);
        x.hang(2, 0);
        x.hang(3, 0);
        x.move(0, 3);
        x.deliver(1);
        x.deliver(0);
        due.is("isAtRest()", x.isAtRest(), true);
        due.is("move(0, 0)", x.move(0, 0), false);
        x.drop(0);
        x.fail(1);
        due.is("a change and an own one", x.isAtRest(), false);

        CountHouse y = new CountHouse();
        y.hang(1, 0);
        y.hang(2, 0);
        report(y, 0, 1, 1);
        y.deliver(0);
        y.move(0, 2);
        y.deliver(1);
        due.is("one that waits", y.isAtRest(), false);
        y.hang(1, 3);
        deliverAll(y);
        due.is("isAtRest()", y.isAtRest(), true);
    }

    private static void astray() {
        due.part("24 astray");
        CountHouse x = new CountHouse();
        x.hang(1, 0);
        x.hang(2, 1);
        report(x, 0, 2, 1);
        report(x, 1, 1, 2);
        report(x, 2, 0, 4);
        due.is("astray()", x.astray(), 0);
        deliverAll(x);
        due.is("astray()", x.astray(), 0);
        x.hang(2, 0);
        due.is("astray()", x.astray(), 0);
        x.move(0, 0);
        x.fail(1);
        due.is("astray()", x.astray(), 0);
        deliverAll(x);
        x.fail(0);
        due.is("astray()", x.astray(), 0);
    }
}
