/** Each sentence of promises 1 to 14 that names a boundary, with a test of its own. */
public final class EdgesTest extends Cases {
    public static void main(String[] args) {
        allUpNoneHangs();
        noPrecinctsNoLetters();
        registerIs0To10000000();
        thatPrecinctIsThere();
        draftIsAtFirst0();
        votesWhatItWas();
        votesAre0To10000000();
        draftIs0AfterVersion();
        versionOfOneNotThereYet();
        versionAboveItsNewest();
        countsOfAVersion();
        versionsInAll();
        refusedVersionsDoNotCount();

        hangUnderTheSame();
        hangTakenAwayBefore();
        hangIts0();
        hangTheSameOne();
        hangOneOfBothIsDown();
        hangUnderOneBelow();
        hangUnderTheLowestOfAll();
        hangings60();
        refusedHangingsDoNotCount();
        failHowManyChildren();
        failTakenAwayFromItsParent();
        failIncludesNothing();
        failNothingWaits();
        failItIsDown();
        failures30();
        refusedFailuresDoNotCount();
        reviveHowMany();
        reviveTheNewestOfItsOwn();
        reviveItIsUp();

        moveNotIncludedAsOwnAnyMore();
        moveWaitsNoMore();
        moveThroughAChildItStays();
        moveFromOneThatIsDown();
        moveToOneThatIsDown();
        moveWithoutAVersion();
        moveElseItWaits();
        moveThenAtTheNewOne();
        moveOfOneNotThereYet();
        moveItIsItsHome();

        lettersFrom0On();
        deliverIsGone();
        deliverAtFullPost();
        dropHowManyAreLeft();
        twinAsTheLast();
        twinAt500();
        resendAllNotTaken();
        resendNone();
        resendUpTo500();
        resendHangsNowhere();
        lettersHowMany();
        letterWhat();
        the512thCall();
        due.end();
    }

    private static void allUpNoneHangs() {
        due.part("1 'All offices up, none hangs'");
        CountHouse x = new CountHouse();
        for (int o = 0; o < 12; o++) {
            officeIsAll(x, o, NONE, 0, 1, 0, 0, 0, 0, 0);
        }
    }

    private static void noPrecinctsNoLetters() {
        due.part("1 'no precincts, no letters'");
        CountHouse x = new CountHouse();
        for (int p = 0; p < 40; p++) {
            int asked = p;
            due.is("newest(" + p + ")", x.newest(p), NONE);
            due.thrown("move(" + p + ", 0)", INDEX, () -> x.move(asked, 0));
            due.thrown("version of " + p, INDEX, () -> x.version(asked, 1, 0, 0));
            due.is("included(0, " + p + ")", x.included(0, p), 0);
            due.is("through(0, " + p + ")", x.through(0, p), NONE);
        }
        due.is("letters()", x.letters(), 0);
        due.thrown("deliver(0)", INDEX, () -> x.deliver(0));
        due.thrown("drop(0)", INDEX, () -> x.drop(0));
        due.thrown("twin(0)", INDEX, () -> x.twin(0));
        due.thrown("letter(0, 0)", INDEX, () -> x.letter(0, 0));
    }

    private static void registerIs0To10000000() {
        due.part("2 'the register is not 0 .. 10000000'");
        CountHouse x = new CountHouse();
        for (int wrong : NOT_COUNTS) {
            thrownByPrecinct(x, ARGUMENT, 0, 0, wrong);
            due.is("newest(0)", x.newest(0), NONE);
        }
        x.precinct(0, 0, 0);
        x.precinct(1, 0, MANY);
        due.is("newest(0)", x.newest(0), 0);
        due.is("newest(1)", x.newest(1), 0);
        due.is("one on a register of 0", x.version(0, 1, 0, 1), 1);
        due.is("all on the greatest one", x.version(1, 1, 0, MANY), 0);
    }

    private static void thatPrecinctIsThere() {
        due.part("2 'there is that precinct'");
        CountHouse x = new CountHouse();
        x.precinct(0, 1, 50);
        thrownByPrecinct(x, STATE, 0, 1, 50);
        thrownByPrecinct(x, STATE, 0, 2, 10);
        x.precinct(1, 1, 50);
        due.is("its register is as before", x.version(0, 1, 0, 50), 0);
        shows(x, 1, 0, 1, 1);
        shows(x, 2, 0, 0, NONE);
        thrownByPrecinct(x, STATE, 0, 1, 50);
        due.is("newest(0)", x.newest(0), 1);
        x.fail(1);
        thrownByPrecinct(x, STATE, 0, 1, 50);
    }

    private static void draftIsAtFirst0() {
        due.part("3 'the DRAFT, at first all 0'");
        CountHouse x = new CountHouse();
        for (int option = 0; option < 6; option++) {
            due.is("votes(" + option + ", 0)", x.votes(option, 0), 0);
        }
        CountHouse y = new CountHouse();
        y.precinct(0, 0, 5);
        due.is("a version of the first draft", y.version(0, 1, 0, 0), 0);
        for (int option = 0; option < 6; option++) {
            due.is("sum(0, " + option + ")", y.sum(0, option), 0);
        }
    }

    private static void votesWhatItWas() {
        due.part("3 'what it was'");
        CountHouse x = new CountHouse();
        for (int option = 0; option < 6; option++) {
            due.is("votes, first", x.votes(option, 10 + option), 0);
        }
        for (int option = 0; option < 6; option++) {
            due.is("votes, then", x.votes(option, 10 + option), 10 + option);
            due.is("votes, the same", x.votes(option, 0), 10 + option);
            due.is("votes, 0", x.votes(option, 1), 0);
        }
    }

    private static void votesAre0To10000000() {
        due.part("3 'not 0 .. 10000000'");
        CountHouse x = new CountHouse();
        for (int option = 0; option < 6; option++) {
            int asked = option;
            due.is("the most", x.votes(option, MANY), 0);
            for (int wrong : NOT_COUNTS) {
                due.thrown("votes(" + option + ", " + wrong + ")", ARGUMENT, () -> x.votes(asked, wrong));
            }
            due.is("none", x.votes(option, 0), MANY);
            due.is("one", x.votes(option, 1), 0);
        }
    }

    private static void draftIs0AfterVersion() {
        due.part("4 'all 0 then'");
        CountHouse x = new CountHouse();
        x.precinct(0, 0, 500);
        x.precinct(1, 0, 500);
        for (int option = 0; option < 6; option++) {
            x.votes(option, 3);
        }
        x.version(0, 1, 0, 18);
        for (int option = 0; option < 6; option++) {
            due.is("votes(" + option + ", 0)", x.votes(option, 0), 0);
            due.is("the version keeps its votes", x.sum(0, option), 3);
        }
        x.votes(2, 5);
        x.fail(0);
        x.version(1, 1, 0, 5);
        due.is("at a home that is down, too", x.votes(2, 0), 0);
        x.revive(0);
        due.is("sum(0, 2)", x.sum(0, 2), 8);
    }

    private static void versionOfOneNotThereYet() {
        due.part("4 'no such precinct, or it is not there yet'");
        CountHouse x = new CountHouse();
        x.votes(0, 5);
        for (int p = 0; p < 40; p++) {
            int asked = p;
            due.thrown("version of " + p, INDEX, () -> x.version(asked, 1, 0, 5));
        }
        x.precinct(39, 0, 5);
        due.is("when it is there", x.version(39, 1, 0, 5), 0);
        due.thrown("version of 38", INDEX, () -> x.version(38, 1, 0, 5));
        due.thrown("version of 40", INDEX, () -> x.version(40, 1, 0, 5));
        due.is("sum(0, 0)", x.sum(0, 0), 5);
    }

    private static void versionAboveItsNewest() {
        due.part("4 'v is not above its newest'");
        CountHouse x = new CountHouse();
        x.precinct(0, 1, 5);
        due.thrown("-1 before one", ARGUMENT, () -> x.version(0, -1, 0, 0));
        due.thrown("0 before one", ARGUMENT, () -> x.version(0, 0, 0, 0));
        x.version(0, 5, 0, 0);
        due.thrown("the same", ARGUMENT, () -> x.version(0, 5, 0, 0));
        due.thrown("one less", ARGUMENT, () -> x.version(0, 4, 0, 0));
        x.fail(1);
        x.version(0, 7, 0, 0);
        due.thrown("above what was included, not above the newest", ARGUMENT, () -> x.version(0, 6, 0, 0));
        due.thrown("the same, while it is down", ARGUMENT, () -> x.version(0, 7, 0, 0));
        x.version(0, 8, 0, 0);
        due.is("newest(0)", x.newest(0), 8);
    }

    private static void countsOfAVersion() {
        due.part("4 'a count not 0 .. 10000000'");
        CountHouse x = new CountHouse();
        x.precinct(0, 1, MANY);
        for (int wrong : NOT_COUNTS) {
            due.thrown("invalid " + wrong, ARGUMENT, () -> x.version(0, 1, wrong, 0));
            due.thrown("ballots " + wrong, ARGUMENT, () -> x.version(0, 1, 0, wrong));
        }
        due.is("newest(0)", x.newest(0), 0);
        due.is("the least of both", x.version(0, 1, 0, 0), 0);
        due.is("the most of both", x.version(0, 2, MANY, MANY), 0);
        due.is("the most invalid ones", x.version(0, 3, MANY, 0), 4);
        due.is("the most ballots", x.version(0, 4, 0, MANY), 0);
    }

    private static void versionsInAll() {
        due.part("4 'there are 300 versions in all'");
        CountHouse x = new CountHouse();
        for (int p = 0; p < 3; p++) {
            x.precinct(p, p, 5);
        }
        x.fail(2);
        for (int v = 1; v <= 299; v++) {
            x.version(v % 3, v, 0, 0);
        }
        due.is("the 300th", x.version(0, 300, 0, 0), 0);
        for (int p = 0; p < 3; p++) {
            int asked = p;
            due.thrown("the 301st", LIMIT, () -> x.version(asked, 301, 0, 0));
        }
        due.is("newest(0)", x.newest(0), 300);
        due.is("newest(1)", x.newest(1), 298);
        due.is("newest(2)", x.newest(2), 299);
        due.is("revive(2)", x.revive(2), 1);
        shows(x, 2, 2, 299, 2);
    }

    private static void refusedVersionsDoNotCount() {
        due.part("4 'there are 300 versions': a refused one is none");
        CountHouse x = new CountHouse();
        x.precinct(0, 0, 5);
        for (int i = 0; i < 50; i++) {
            due.thrown("not above", ARGUMENT, () -> x.version(0, 0, 0, 0));
            due.thrown("not there", INDEX, () -> x.version(1, 1, 0, 0));
        }
        for (int v = 1; v <= 300; v++) {
            due.is("version " + v, x.version(0, v, 0, 0), 0);
        }
        due.thrown("the 301st", LIMIT, () -> x.version(0, 301, 0, 0));
    }

    private static void hangUnderTheSame() {
        due.part("5 'perhaps the same as before'");
        CountHouse x = new CountHouse();
        due.is("first", x.hang(1, 0), 1);
        report(x, 0, 1, 10);
        report(x, 1, 1, 20);
        x.deliver(0);
        due.is("sum(0, 0)", x.sum(0, 0), 10);
        due.is("once more", x.hang(1, 0), 2);
        officeIsAll(x, 1, 0, 2, 1, 0, 0, 2, 0, 2);
        officeIs(x, 0, CHILDREN, 1);
        due.is("taken away", x.sum(0, 0), 0);
        due.is("letters()", x.letters(), 3);
        letterIs(x, 1, 1, 2, 1, 0, 1);
        letterIs(x, 2, 1, 2, 2, 1, 1);
        due.is("the old letter", x.deliver(0), false);
        deliverAll(x);
        due.is("sum(0, 0)", x.sum(0, 0), 30);
    }

    private static void hangTakenAwayBefore() {
        due.part("5 'taken away from its parent before, if it has one'");
        CountHouse x = new CountHouse();
        report(x, 0, 1, 10);
        due.is("without a parent", x.hang(1, 2), 1);
        x.deliver(0);
        shows(x, 2, 0, 1, 1);
        due.is("with one", x.hang(1, 3), 2);
        shows(x, 2, 0, 0, NONE);
        officeIs(x, 2, CHILDREN, 0);
        officeIs(x, 3, CHILDREN, 1);
        x.deliver(0);
        shows(x, 3, 0, 1, 1);

        due.part("5 'taken away .. before': the old parent tells first, and tries, then the office");
        CountHouse y = new CountHouse();
        y.hang(3, 4);
        y.hang(1, 3);
        report(y, 0, 1, 10);
        y.deliver(0);
        y.move(0, 3);
        y.drop(0);
        y.drop(0);
        report(y, 5, 1, 1);
        y.drop(0);
        y.hang(1, 3);
        due.is("letters()", y.letters(), 3);
        letterIs(y, 0, 3, 1, 2, 0, 0);
        letterIs(y, 1, 3, 1, 3, 0, 1);
        letterIs(y, 2, 1, 2, 1, 5, 1);
    }

    private static void hangIts0() {
        due.part("5 'it is 0'");
        CountHouse x = new CountHouse();
        for (int parent = 0; parent < 12; parent++) {
            int asked = parent;
            due.thrown("hang(0, " + parent + ")", ARGUMENT, () -> x.hang(0, asked));
        }
        officeIs(x, 0, PARENT, NONE);
        for (int office = 1; office < 12; office++) {
            due.is("hang(" + office + ", 0)", x.hang(office, 0), 1);
        }
        officeIs(x, 0, CHILDREN, 11);
    }

    private static void hangTheSameOne() {
        due.part("5 'or the same one'");
        CountHouse x = new CountHouse();
        x.fail(3);
        for (int office = 0; office < 12; office++) {
            int asked = office;
            due.thrown("hang(" + office + ", " + office + ")", ARGUMENT, () -> x.hang(asked, asked));
            officeIs(x, office, PARENT, NONE);
            officeIs(x, office, EPOCH, 0);
        }
    }

    private static void hangOneOfBothIsDown() {
        due.part("5 'one of both is down'");
        CountHouse x = new CountHouse();
        x.fail(2);
        due.thrown("the office", STATE, () -> x.hang(2, 1));
        due.thrown("the other one", STATE, () -> x.hang(1, 2));
        x.fail(3);
        due.thrown("both", STATE, () -> x.hang(2, 3));
        x.revive(2);
        due.is("the office is up again", x.hang(2, 1), 1);
        x.fail(0);
        due.thrown("office 0 is down", STATE, () -> x.hang(1, 0));
        x.revive(0);
        due.is("office 0 is up again", x.hang(1, 0), 1);
    }

    private static void hangUnderOneBelow() {
        due.part("5 'the other one is below it'");
        CountHouse x = new CountHouse();
        x.hang(2, 1);
        x.hang(3, 2);
        x.hang(4, 3);
        x.hang(5, 1);
        due.thrown("under its child", STATE, () -> x.hang(1, 2));
        due.thrown("under its child's child", STATE, () -> x.hang(1, 3));
        due.thrown("one below that", STATE, () -> x.hang(1, 4));
        due.thrown("within", STATE, () -> x.hang(2, 4));
        due.is("beside it", x.hang(2, 5), 2);
        due.is("under the one above its parent", x.hang(3, 5), 2);
        due.is("under the top", x.hang(4, 1), 2);
        due.is("below it once, not any more", x.hang(2, 4), 3);
        x.fail(4);
        due.is("below it till the one between failed", x.hang(1, 2), 1);
    }

    private static void hangUnderTheLowestOfAll() {
        due.part("5 'the other one is below it': all twelve in one chain");
        CountHouse x = new CountHouse();
        for (int office = 1; office < 11; office++) {
            x.hang(office, office + 1);
        }
        for (int below = 1; below < 11; below++) {
            int asked = below;
            due.thrown("hang(11, " + below + ")", STATE, () -> x.hang(11, asked));
        }
        due.is("hang(11, 0)", x.hang(11, 0), 1);
        due.thrown("hang(11, 1)", STATE, () -> x.hang(11, 1));
        due.is("the lowest under the top", x.hang(1, 0), 2);
        due.is("hang(11, 1)", x.hang(11, 1), 2);
    }

    private static void hangings60() {
        due.part("5 'there were 60 hangings'");
        CountHouse x = new CountHouse();
        for (int i = 0; i < 59; i++) {
            x.hang(1 + i % 11, 0);
        }
        due.is("the 60th", x.hang(11, 0), 6);
        for (int office = 1; office < 12; office++) {
            int asked = office;
            due.thrown("the 61st", LIMIT, () -> x.hang(asked, 0));
        }
        officeIs(x, 11, EPOCH, 6);
        x.fail(0);
        x.revive(0);
        due.thrown("when none hangs any more", LIMIT, () -> x.hang(1, 0));
        officeIs(x, 1, PARENT, NONE);
    }

    private static void refusedHangingsDoNotCount() {
        due.part("5 'there were 60 hangings': a refused one is none");
        CountHouse x = new CountHouse();
        x.fail(5);
        for (int i = 0; i < 30; i++) {
            due.thrown("no office", INDEX, () -> x.hang(12, 0));
            due.thrown("office 0", ARGUMENT, () -> x.hang(0, 1));
            due.thrown("down", STATE, () -> x.hang(5, 1));
        }
        for (int i = 1; i <= 60; i++) {
            due.is("hanging " + i, x.hang(1, 0), i);
        }
        due.thrown("the 61st", LIMIT, () -> x.hang(1, 0));
    }

    private static void failHowManyChildren() {
        due.part("6 'how many children it had', 'its children hang nowhere'");
        CountHouse x = new CountHouse();
        due.is("none", x.fail(0), 0);
        x.revive(0);
        for (int office = 1; office < 12; office++) {
            x.hang(office, 0);
        }
        due.is("all", x.fail(0), 11);
        for (int office = 0; office < 12; office++) {
            officeIs(x, office, PARENT, NONE);
        }
        x.hang(1, 2);
        x.hang(2, 3);
        x.hang(4, 3);
        due.is("not the children's children", x.fail(3), 2);
        officeIs(x, 1, PARENT, 2);
        officeIs(x, 2, PARENT, NONE);
        officeIs(x, 2, CHILDREN, 1);

        due.part("6 'its children hang nowhere': they include what they did, and their line is empty");
        CountHouse y = new CountHouse();
        y.hang(1, 0);
        report(y, 0, 1, 1);
        report(y, 1, 1, 1);
        y.deliver(0);
        y.fail(0);
        officeIsAll(y, 1, NONE, 1, 1, 0, 0, 0, 0, 2);
        due.is("the letter stays", y.letters(), 1);
        due.is("but is not taken", y.deliver(0), false);
        due.is("isAtRest()", y.isAtRest(), true);
        y.revive(0);
        due.is("hung there again", y.hang(1, 0), 2);
        officeIsAll(y, 1, 0, 2, 1, 0, 0, 2, 0, 2);
    }

    private static void failTakenAwayFromItsParent() {
        due.part("6 'taken away from its parent'");
        CountHouse x = new CountHouse();
        x.hang(3, 0);
        x.hang(1, 3);
        report(x, 0, 1, 10);
        x.deliver(0);
        x.deliver(0);
        due.is("fail(1)", x.fail(1), 0);
        shows(x, 3, 0, 0, NONE);
        officeIs(x, 3, CHILDREN, 0);
        due.is("the parent tells it", x.letters(), 1);
        letterIs(x, 0, 3, 1, 2, 0, 0);
        x.deliver(0);
        shows(x, 0, 0, 0, NONE);
    }

    private static void failIncludesNothing() {
        due.part("6 'it includes nothing'");
        CountHouse x = new CountHouse();
        x.hang(1, 0);
        report(x, 0, 1, 10);
        report(x, 39, 0, 20);
        x.deliver(0);
        x.fail(0);
        officeIs(x, 0, PRECINCTS, 0);
        shows(x, 0, 0, 0, NONE);
        shows(x, 0, 39, 0, NONE);
        due.is("sum(0, 0)", x.sum(0, 0), 0);
        due.is("marked(0)", x.marked(0), 0);
        due.is("held(0, 1, 0)", x.held(0, 1, 0), 0);
        due.is("its child does still", x.sum(1, 0), 10);
    }

    private static void failNothingWaits() {
        due.part("6 'nothing waits'");
        CountHouse x = contested();
        x.deliver(1);
        x.move(0, 0);
        officeIs(x, 0, WAITING, 2);
        due.is("fail(0)", x.fail(0), 2);
        officeIs(x, 0, WAITING, 0);
        x.revive(0);
        officeIs(x, 0, WAITING, 0);
        shows(x, 0, 0, 1, 0);
        x.hang(2, 0);
        officeIs(x, 0, WAITING, 0);
        x.move(0, 5);
        shows(x, 0, 0, 0, NONE);
    }

    private static void failItIsDown() {
        due.part("6 'it is down'");
        CountHouse x = new CountHouse();
        for (int office = 0; office < 12; office++) {
            int asked = office;
            due.is("fail(" + office + ")", x.fail(office), 0);
            due.thrown("fail(" + office + ") again", STATE, () -> x.fail(asked));
            officeIs(x, office, UP, 0);
            due.is("revive(" + office + ")", x.revive(office), 0);
            due.is("fail(" + office + ") then", x.fail(office), 0);
        }
    }

    private static void failures30() {
        due.part("6 '30 were'");
        CountHouse x = new CountHouse();
        x.hang(2, 1);
        for (int i = 0; i < 29; i++) {
            x.fail(3 + i % 9);
            x.revive(3 + i % 9);
        }
        due.is("the 30th", x.fail(3), 0);
        due.thrown("the 31st", LIMIT, () -> x.fail(1));
        officeIs(x, 1, UP, 1);
        officeIs(x, 2, PARENT, 1);
        due.is("revive goes on", x.revive(3), 0);
        due.thrown("once more", LIMIT, () -> x.fail(3));
    }

    private static void refusedFailuresDoNotCount() {
        due.part("6 '30 were': a refused one is none");
        CountHouse x = new CountHouse();
        x.fail(1);
        for (int i = 0; i < 40; i++) {
            due.thrown("down", STATE, () -> x.fail(1));
            due.thrown("no office", INDEX, () -> x.fail(-1));
        }
        for (int i = 1; i < 30; i++) {
            x.revive(1);
            due.is("failure " + (i + 1), x.fail(1), 0);
        }
        due.thrown("the 31st", LIMIT, () -> x.fail(2));
    }

    private static void reviveHowMany() {
        due.part("7 'how many'");
        CountHouse x = new CountHouse();
        x.fail(5);
        due.is("none", x.revive(5), 0);
        x.precinct(0, 5, 5);
        x.fail(5);
        due.is("one without a version", x.revive(5), 0);
        officeIs(x, 5, PRECINCTS, 0);
        x.version(0, 1, 0, 0);
        x.fail(5);
        due.is("one", x.revive(5), 1);
        for (int p = 1; p < 40; p++) {
            x.precinct(p, 5, 5);
            x.version(p, 1, 0, 0);
        }
        x.fail(5);
        due.is("all 40", x.revive(5), 40);
        officeIs(x, 5, PRECINCTS, 40);
    }

    private static void reviveTheNewestOfItsOwn() {
        due.part("7 'the newest versions of all precincts whose home it is'");
        CountHouse x = new CountHouse();
        x.hang(2, 1);
        report(x, 0, 1, 1);
        report(x, 1, 2, 2);
        report(x, 2, 1, 4);
        x.deliver(0);
        due.is("sum(1, 0)", x.sum(1, 0), 7);
        x.fail(1);
        next(x, 0, 2, 8);
        next(x, 0, 3, 16);
        x.move(2, 3);
        due.is("revive(1)", x.revive(1), 1);
        shows(x, 1, 0, 3, 1);
        shows(x, 1, 1, 0, NONE);
        shows(x, 1, 2, 0, NONE);
        officeIsAll(x, 1, NONE, 0, 1, 0, 0, 0, 0, 1);
        due.is("its child hangs nowhere", x.office(2, PARENT), NONE);
    }

    private static void reviveItIsUp() {
        due.part("7 'it is up'");
        CountHouse x = new CountHouse();
        for (int office = 0; office < 12; office++) {
            int asked = office;
            due.thrown("revive(" + office + ")", STATE, () -> x.revive(asked));
            x.fail(office);
            due.is("revive(" + office + ")", x.revive(office), 0);
            due.thrown("revive(" + office + ") again", STATE, () -> x.revive(asked));
        }
    }

    private static void moveNotIncludedAsOwnAnyMore() {
        due.part("8 'At the old one, if it is up, it is not included as own any more'");
        CountHouse x = new CountHouse();
        x.hang(1, 0);
        report(x, 0, 1, 10);
        due.is("move(0, 2)", x.move(0, 2), true);
        shows(x, 1, 0, 0, NONE);
        shows(x, 2, 0, 1, 2);
        due.is("sum(1, 0)", x.sum(1, 0), 0);
        letterIs(x, 1, 1, 1, 2, 0, 0);
        next(x, 0, 2, 20);
        shows(x, 1, 0, 0, NONE);
        shows(x, 2, 0, 2, 2);
    }

    private static void moveWaitsNoMore() {
        due.part("8 'nor waits'");
        CountHouse x = new CountHouse();
        x.hang(1, 0);
        report(x, 0, 1, 10);
        x.deliver(0);
        x.move(0, 0);
        officeIs(x, 0, WAITING, 1);
        x.move(0, 5);
        officeIs(x, 0, WAITING, 0);
        due.is("the letter of office 1", x.deliver(0), true);
        shows(x, 0, 0, 0, NONE);
    }

    private static void moveThroughAChildItStays() {
        due.part("8 'not included as own any more': through a child it stays");
        CountHouse x = new CountHouse();
        x.hang(1, 0);
        report(x, 0, 1, 10);
        x.deliver(0);
        x.move(0, 0);
        shows(x, 0, 0, 1, 1);
        x.move(0, 5);
        shows(x, 0, 0, 1, 1);
    }

    private static void moveFromOneThatIsDown() {
        due.part("8 'At the old one, if it is up': it is down");
        CountHouse x = new CountHouse();
        report(x, 0, 1, 10);
        x.fail(1);
        due.is("move(0, 2)", x.move(0, 2), true);
        officeIsAll(x, 1, NONE, 0, 0, 0, 0, 0, 0, 0);
        shows(x, 2, 0, 1, 2);
        due.is("revive(1)", x.revive(1), 0);
    }

    private static void moveToOneThatIsDown() {
        due.part("8 'at the new one, if that is up': it is down");
        CountHouse x = new CountHouse();
        report(x, 0, 1, 10);
        x.fail(2);
        due.is("move(0, 2)", x.move(0, 2), false);
        shows(x, 1, 0, 0, NONE);
        shows(x, 2, 0, 0, NONE);
        officeIs(x, 2, WAITING, 0);
        due.is("it is its home", x.revive(2), 1);
        shows(x, 2, 0, 1, 2);
    }

    private static void moveWithoutAVersion() {
        due.part("8 'and there is a version': there is none");
        CountHouse x = new CountHouse();
        x.hang(2, 0);
        x.precinct(0, 1, 50);
        due.is("move(0, 2)", x.move(0, 2), false);
        shows(x, 2, 0, 0, NONE);
        officeIs(x, 2, WAITING, 0);
        due.is("letters()", x.letters(), 0);
        x.version(0, 1, 0, 0);
        shows(x, 2, 0, 1, 2);
        shows(x, 1, 0, 0, NONE);
    }

    private static void moveElseItWaits() {
        due.part("8 'it is included as own, if it is not at all, else it waits'");
        CountHouse x = contested();
        x.deliver(0);
        shows(x, 0, 0, 0, NONE);
        due.is("not at all", x.move(0, 0), true);
        shows(x, 0, 0, 1, 0);
        officeIs(x, 0, WAITING, 0);
        CountHouse y = contested();
        due.is("through office 1", y.move(0, 0), false);
        shows(y, 0, 0, 1, 1);
        officeIs(y, 0, WAITING, 1);
        y.deliver(0);
        shows(y, 0, 0, 1, 0);
        officeIs(y, 0, WAITING, 0);
    }

    private static void moveThenAtTheNewOne() {
        due.part("8 'then at the new one': the old one tells and tries first");
        CountHouse x = new CountHouse();
        x.hang(1, 0);
        x.hang(2, 1);
        x.hang(3, 0);
        report(x, 0, 2, 10);
        x.move(0, 1);
        x.deliver(0);
        officeIs(x, 1, WAITING, 1);
        x.drop(0);
        x.drop(0);
        due.is("move(0, 3)", x.move(0, 3), true);
        due.is("letters()", x.letters(), 3);
        letterIs(x, 0, 1, 1, 2, 0, 0);
        letterIs(x, 1, 1, 1, 3, 0, 1);
        letterIs(x, 2, 3, 1, 1, 0, 1);
    }

    private static void moveOfOneNotThereYet() {
        due.part("8 'also when it is not there yet'");
        CountHouse x = new CountHouse();
        for (int p = 0; p < 40; p++) {
            int asked = p;
            due.thrown("move(" + p + ", 1)", INDEX, () -> x.move(asked, 1));
        }
        x.precinct(39, 0, 5);
        due.is("when it is there", x.move(39, 1), false);
        due.thrown("move(38, 1)", INDEX, () -> x.move(38, 1));
    }

    private static void moveItIsItsHome() {
        due.part("8 'it is its home already'");
        CountHouse x = new CountHouse();
        x.precinct(0, 0, 5);
        for (int office = 0; office < 12; office++) {
            int asked = office;
            due.thrown("move(0, " + office + ")", STATE, () -> x.move(0, asked));
            x.move(0, (office + 1) % 12);
        }
        x.version(0, 1, 0, 0);
        due.thrown("with a version", STATE, () -> x.move(0, 0));
        x.fail(0);
        due.thrown("while it is down", STATE, () -> x.move(0, 0));
        due.is("away", x.move(0, 3), true);
        due.is("and back", x.move(0, 0), false);
    }

    private static void lettersFrom0On() {
        due.part("9 'Letter i, from 0 on in the order of sending'");
        CountHouse x = new CountHouse();
        x.hang(1, 0);
        x.hang(2, 0);
        noLetters(x, new int[] {0, -1, 1, Integer.MIN_VALUE, Integer.MAX_VALUE});
        report(x, 0, 2, 1);
        noLetters(x, new int[] {-1, 1, Integer.MIN_VALUE, Integer.MAX_VALUE});
        report(x, 1, 1, 1);
        report(x, 2, 2, 1);
        noLetters(x, new int[] {-1, 3});
        letterIs(x, 0, 2, 1, 1, 0, 1);
        letterIs(x, 1, 1, 1, 1, 1, 1);
        letterIs(x, 2, 2, 1, 2, 2, 1);
        due.is("the one between", x.deliver(1), true);
        letterIs(x, 0, 2, 1, 1, 0, 1);
        letterIs(x, 1, 2, 1, 2, 2, 1);
        noLetters(x, new int[] {2});
        due.is("the first one", x.deliver(0), true);
        due.is("the last one", x.deliver(0), true);
        noLetters(x, new int[] {0, -1});

        due.part("9 'Letter i, from 0 on': of 500");
        CountHouse y = withLetters(500);
        due.is("letter(499, 0)", y.letter(499, 0), 1);
        due.thrown("letter(500, 0)", INDEX, () -> y.letter(500, 0));
        due.thrown("deliver(500)", INDEX, () -> y.deliver(500));
        due.thrown("drop(500)", INDEX, () -> y.drop(500));
        due.thrown("twin(500)", INDEX, () -> y.twin(500));
        due.is("deliver(499)", y.deliver(499), false);
        due.thrown("deliver(499) then", INDEX, () -> y.deliver(499));
        due.is("drop(498)", y.drop(498), 498);
    }

    private static void noLetters(CountHouse x, int[] wrong) {
        for (int i : wrong) {
            due.thrown("deliver(" + i + ")", INDEX, () -> x.deliver(i));
            due.thrown("drop(" + i + ")", INDEX, () -> x.drop(i));
            due.thrown("twin(" + i + ")", INDEX, () -> x.twin(i));
            due.thrown("letter(" + i + ", 0)", INDEX, () -> x.letter(i, 0));
        }
    }

    private static void deliverIsGone() {
        due.part("9 'and is gone: whether it is taken'");
        CountHouse x = new CountHouse();
        x.hang(1, 0);
        report(x, 0, 1, 1);
        report(x, 1, 1, 1);
        due.is("not taken", x.deliver(1), false);
        due.is("gone", x.letters(), 1);
        letterIs(x, 0, 1, 1, 1, 0, 1);
        due.is("taken", x.deliver(0), true);
        due.is("gone", x.letters(), 0);
        officeIs(x, 1, TAKEN, 1);
        officeIs(x, 1, LINE, 2);
    }

    private static void deliverAtFullPost() {
        due.part("9 'and is gone': the 500th makes room for one that the parent sends");
        CountHouse x = new CountHouse();
        x.hang(2, 1);
        for (int p = 0; p < 39; p++) {
            report(x, p, 1, p);
        }
        report(x, 39, 2, 1);
        for (int i = 0; i < 13; i++) {
            x.hang(1, 0);
        }
        due.is("letters()", x.letters(), 500);
        letterIs(x, 0, 2, 1, 1, 39, 1);
        due.is("deliver(0)", x.deliver(0), true);
        due.is("letters()", x.letters(), 500);
        letterIs(x, 499, 1, 13, 40, 39, 1);
    }

    private static void dropHowManyAreLeft() {
        due.part("10 'how many are left'");
        CountHouse x = new CountHouse();
        x.hang(1, 0);
        for (int p = 0; p < 3; p++) {
            report(x, p, 1, 1);
        }
        due.is("the last one", x.drop(2), 2);
        letterIs(x, 1, 1, 1, 2, 1, 1);
        due.is("the first one", x.drop(0), 1);
        letterIs(x, 0, 1, 1, 2, 1, 1);
        due.is("the only one", x.drop(0), 0);
        due.thrown("none", INDEX, () -> x.drop(0));
        officeIsAll(x, 1, 0, 1, 1, 0, 0, 3, 0, 3);
        officeIs(x, 0, PRECINCTS, 0);
    }

    private static void twinAsTheLast() {
        due.part("11 'Letter i once more, as the last one: how many there are'");
        CountHouse x = new CountHouse();
        x.hang(1, 0);
        report(x, 0, 1, 1);
        due.is("of the only one", x.twin(0), 2);
        next(x, 0, 2, 2);
        due.is("of the last one", x.twin(2), 4);
        due.is("of the first one", x.twin(0), 5);
        letterIs(x, 0, 1, 1, 1, 0, 1);
        letterIs(x, 1, 1, 1, 1, 0, 1);
        letterIs(x, 2, 1, 1, 2, 0, 2);
        letterIs(x, 3, 1, 1, 2, 0, 2);
        letterIs(x, 4, 1, 1, 1, 0, 1);
        officeIs(x, 1, LINE, 2);
        due.is("either of both is taken", x.deliver(4), true);
        due.is("the other one not", x.deliver(0), false);
    }

    private static void twinAt500() {
        due.part("11 'there are 500'");
        CountHouse x = withLetters(498);
        due.is("at 498", x.twin(0), 499);
        due.is("at 499", x.twin(498), 500);
        due.thrown("at 500", STATE, () -> x.twin(0));
        due.thrown("at 500, of the last one", STATE, () -> x.twin(499));
        due.is("letters()", x.letters(), 500);
        x.drop(7);
        due.is("at 499 again", x.twin(7), 500);
        due.thrown("at 500 again", STATE, () -> x.twin(7));
    }

    private static void resendAllNotTaken() {
        due.part("12 'All changes of an office's line that were not taken are sent again, in order'");
        CountHouse x = new CountHouse();
        x.hang(1, 0);
        for (int p = 0; p < 3; p++) {
            report(x, p, 1, 1);
        }
        due.is("none taken", x.resend(1), 3);
        due.is("letters()", x.letters(), 6);
        for (int i = 0; i < 3; i++) {
            letterIs(x, 3 + i, 1, 1, i + 1, i, 1);
        }
        x.deliver(0);
        due.is("one taken", x.resend(1), 2);
        letterIs(x, 5, 1, 1, 2, 1, 1);
        letterIs(x, 6, 1, 1, 3, 2, 1);
        deliverAll(x);
        officeIs(x, 1, TAKEN, 3);
        due.is("all taken", x.resend(1), 0);
        due.is("letters()", x.letters(), 0);
        x.move(1, 5);
        x.drop(0);
        due.is("a change to 0", x.resend(1), 1);
        letterIs(x, 0, 1, 1, 4, 1, 0);
        officeIs(x, 1, LINE, 4);
    }

    private static void resendNone() {
        due.part("12 'how many letters that made': none");
        CountHouse x = new CountHouse();
        x.hang(1, 0);
        due.is("an empty line", x.resend(1), 0);
        report(x, 0, 1, 1);
        x.deliver(0);
        due.is("all taken", x.resend(1), 0);
        x.hang(2, 1);
        due.is("another one's line", x.resend(2), 0);
        due.is("letters()", x.letters(), 0);
    }

    private static void resendUpTo500() {
        due.part("12 'as long as there are less than 500 letters'");
        // Office 1 has a line of 39 that were not taken.
        for (int room : new int[] {0, 1, 32}) {
            CountHouse x = withLetters(500 - room);
            due.is("room for " + room, x.resend(1), room);
            due.is("letters()", x.letters(), 500);
            if (room > 0) {
                letterIs(x, 499, 1, 12, room, room - 1, 1);
            }
            due.is("no room any more", x.resend(1), 0);
        }
        for (int room = 38; room <= 40; room++) {
            CountHouse x = withLetters(468);
            for (int i = 32; i < room; i++) {
                x.drop(0);
            }
            due.is("room for " + room, x.resend(1), Math.min(room, 39));
            due.is("letters()", x.letters(), room < 40 ? 500 : 499);
        }
    }

    private static void resendHangsNowhere() {
        due.part("12 'it hangs nowhere'");
        CountHouse x = new CountHouse();
        report(x, 0, 1, 1);
        for (int office = 0; office < 12; office++) {
            int asked = office;
            due.thrown("resend(" + office + ")", STATE, () -> x.resend(asked));
        }
        x.hang(1, 2);
        due.is("it hangs", x.resend(1), 1);
        due.thrown("its parent hangs nowhere", STATE, () -> x.resend(2));
        x.fail(2);
        due.thrown("its parent failed", STATE, () -> x.resend(1));
        x.hang(1, 3);
        due.is("it hangs again", x.resend(1), 1);
        x.fail(1);
        due.thrown("it failed", STATE, () -> x.resend(1));
    }

    private static void lettersHowMany() {
        due.part("13 'How many letters there are'");
        CountHouse x = new CountHouse();
        due.is("none", x.letters(), 0);
        x.hang(1, 0);
        due.is("a hanging with nothing", x.letters(), 0);
        report(x, 0, 1, 1);
        due.is("one", x.letters(), 1);
        x.drop(0);
        due.is("none again", x.letters(), 0);
        CountHouse y = withLetters(499);
        y.twin(0);
        due.is("500", y.letters(), 500);
        y.hang(1, 0);
        due.is("500 still", y.letters(), 500);
        y.deliver(0);
        due.is("499", y.letters(), 499);
    }

    private static void letterWhat() {
        due.part("14 'what is none of these'");
        CountHouse x = new CountHouse();
        x.hang(7, 3);
        x.hang(7, 3);
        x.precinct(21, 7, 50);
        x.version(21, 33, 0, 0);
        int[] want = {7, 2, 1, 21, 33};
        for (int what = 0; what < 5; what++) {
            due.is("letter(0, " + what + ")", x.letter(0, what), want[what]);
        }
        for (int wrong : new int[] {-1, 5, 6, Integer.MIN_VALUE, Integer.MAX_VALUE}) {
            due.thrown("letter(0, " + wrong + ")", ARGUMENT, () -> x.letter(0, wrong));
        }
        due.is("letters()", x.letters(), 1);
    }

    private static void the512thCall() {
        due.part("'at most 512 calls': the last ones answer as the first");
        CountHouse x = new CountHouse();
        x.precinct(0, 1, 5);
        x.hang(1, 0);
        for (int v = 1; v <= 254; v++) {
            due.is("version " + v, x.version(0, v, 0, 0), 0);
            due.is("letters()", x.letters(), v);
        }
        due.is("call 511", x.included(1, 0), 254);
        due.is("call 512", x.deliver(0), true);
    }
}
