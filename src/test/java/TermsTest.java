/** Each sentence of the document's Terms that names a boundary, with a test of its own. */
public final class TermsTest extends Cases {
    public static void main(String[] args) {
        sumsOfJustWhatIsIncluded();
        noPrecinctTwice();
        precinctsAre0To39();
        versionsRiseFrom1();
        optionsAre0To5();
        newestIsKnownForEver();
        markOfMoreBallots();
        markOfLessVotes();
        markOfLessThanTheNewest();
        markOfMoreVotesThanBallots();
        marksTogether();

        officesAre0To11();
        upOrDown();
        underAnotherOrNone();
        epochIsOneMore();
        oneVersionOrNone();
        ownOrThrough();
        changeWithAParentOnly();
        changeOnlyWhereItChanges();
        changeToAVersionOr0();
        lineBeginsAnew();
        lineBeginsAnewEmpty();
        sentIfLessThan500();
        sentAtHangingIfLessThan500();
        sentByTwoIfLessThan500();
        sentByOneThatTriesIfLessThan500();

        letterOfAnEpochAndNumber();
        takenOfThisEpochOnly();
        takenIfItHangsThere();
        takenIfNext();
        noOtherDoesAnything();
        zeroEndsWaiting();
        zeroEndsInclusion();
        zeroOfWhatIsThroughAnother();
        versionWhereNothingWaits();
        versionThroughThisChild();
        versionThroughAnother();
        versionOfAnOwnOne();
        versionBehindWhatWaits();
        versionBesideWhatWaitsFromAnother();
        ownWhileDown();
        ownOrNotAtAll();
        ownWaitsOnce();
        tryingOwnOnesByPrecincts();
        tryingOwnBeforeChildren();
        tryingChildrenByNumbers();
        tryingAsLongAsItGoes();
        tryingOneChildBeforeTheNext();
        tryingBehindAllThatGoes();
        tryingWhenSomethingWaitsNoMore();
        tryingAtTheOldHome();
        tryingAtTheOldParent();
        takenAwayByPrecincts();
        takenAwayForgetsWhatWaits();
        takenAwayHangsNowhere();
        due.end();
    }

    private static void sumsOfJustWhatIsIncluded() {
        due.part("'Each office shows sums of just what it includes'");
        CountHouse x = new CountHouse();
        for (int option = 0; option < 6; option++) {
            due.is("nothing included", x.sum(0, option), 0);
        }
        x.hang(1, 0);
        report(x, 0, 1, 7);
        due.is("at its home", x.sum(1, 0), 7);
        due.is("above, before the letter", x.sum(0, 0), 0);
        x.deliver(0);
        due.is("above, behind the letter", x.sum(0, 0), 7);
        next(x, 0, 2, 9);
        due.is("at its home, the later one alone", x.sum(1, 0), 9);
        due.is("above, the earlier one still", x.sum(0, 0), 7);
        x.deliver(0);
        due.is("above, the later one alone", x.sum(0, 0), 9);
        x.fail(1);
        due.is("above, none", x.sum(0, 0), 0);
        due.is("at its home, none", x.sum(1, 0), 0);
    }

    private static void noPrecinctTwice() {
        due.part("'and no precinct twice'");
        CountHouse x = contested();
        due.is("the same one from office 2, too", x.deliver(1), true);
        due.is("sum(0, 0)", x.sum(0, 0), 10);
        officeIs(x, 0, PRECINCTS, 1);
        x.deliver(0);
        due.is("sum(0, 0)", x.sum(0, 0), 10);
        officeIs(x, 0, PRECINCTS, 1);
        due.is("and as own one", x.move(0, 0), false);
        due.is("sum(0, 0)", x.sum(0, 0), 10);
        officeIs(x, 0, PRECINCTS, 1);
    }

    private static void precinctsAre0To39() {
        due.part("'PRECINCTS are 0 .. 39'");
        CountHouse x = new CountHouse();
        for (int edge : new int[] {0, 39}) {
            due.is("newest before", x.newest(edge), NONE);
            x.precinct(edge, 3, 5);
            due.is("newest", x.newest(edge), 0);
            due.is("version", x.version(edge, 1, 0, 0), 0);
            due.is("included", x.included(3, edge), 1);
            due.is("through", x.through(3, edge), 3);
            due.is("move", x.move(edge, 4), true);
        }
        for (int wrong : NOT_PRECINCTS) {
            thrownByPrecinct(x, INDEX, wrong, 3, 5);
            due.thrown("newest(" + wrong + ")", INDEX, () -> x.newest(wrong));
            due.thrown("version of " + wrong, INDEX, () -> x.version(wrong, 2, 0, 0));
            due.thrown("included(4, " + wrong + ")", INDEX, () -> x.included(4, wrong));
            due.thrown("through(4, " + wrong + ")", INDEX, () -> x.through(4, wrong));
            due.thrown("move(" + wrong + ", 5)", INDEX, () -> x.move(wrong, 5));
        }
    }

    private static void versionsRiseFrom1() {
        due.part("'VERSIONS of a precinct are numbers from 1 on, rising'");
        CountHouse x = new CountHouse();
        x.precinct(0, 2, 5);
        x.precinct(1, 2, 5);
        due.thrown("0 as the first", ARGUMENT, () -> x.version(0, 0, 0, 0));
        due.thrown("the least number", ARGUMENT, () -> x.version(0, Integer.MIN_VALUE, 0, 0));
        x.version(0, 1, 0, 0);
        due.thrown("1 once more", ARGUMENT, () -> x.version(0, 1, 0, 0));
        x.version(0, 2, 0, 0);
        x.version(0, 1000, 0, 0);
        due.thrown("one below", ARGUMENT, () -> x.version(0, 999, 0, 0));
        due.thrown("the same", ARGUMENT, () -> x.version(0, 1000, 0, 0));
        x.version(0, 1001, 0, 0);
        due.is("newest(0)", x.newest(0), 1001);
        due.is("another precinct has its own numbers", x.version(1, 1, 0, 0), 0);
        x.version(0, Integer.MAX_VALUE, 0, 0);
        due.thrown("none is above the greatest", ARGUMENT, () -> x.version(0, Integer.MAX_VALUE, 0, 0));
        due.thrown("nor behind it", ARGUMENT, () -> x.version(0, Integer.MIN_VALUE, 0, 0));
        due.is("included(2, 0)", x.included(2, 0), Integer.MAX_VALUE);
    }

    private static void optionsAre0To5() {
        due.part("'OPTIONS 0 .. 5'");
        CountHouse x = new CountHouse();
        x.hang(1, 0);
        x.precinct(0, 1, 50);
        for (int edge : new int[] {0, 5}) {
            due.is("votes(" + edge + ", 10)", x.votes(edge, 10), 0);
        }
        due.is("version", x.version(0, 1, 0, 20), 0);
        x.deliver(0);
        for (int edge : new int[] {0, 5}) {
            due.is("sum(1, " + edge + ")", x.sum(1, edge), 10);
            due.is("held(0, 1, " + edge + ")", x.held(0, 1, edge), 10);
            due.is("seats(1, 2, 0, " + edge + ")", x.seats(1, 2, 0, edge), 1);
        }
        for (int wrong : NOT_OPTIONS) {
            due.thrown("votes(" + wrong + ", 1)", INDEX, () -> x.votes(wrong, 1));
            due.thrown("sum(1, " + wrong + ")", INDEX, () -> x.sum(1, wrong));
            due.thrown("held(0, 1, " + wrong + ")", INDEX, () -> x.held(0, 1, wrong));
            due.thrown("seats(1, 2, 0, " + wrong + ")", INDEX, () -> x.seats(1, 2, 0, wrong));
        }
    }

    private static void newestIsKnownForEver() {
        due.part("'The NEWEST of a precinct is known at its home for ever'");
        CountHouse x = new CountHouse();
        report(x, 0, 1, 10);
        x.fail(1);
        due.is("the home is down", x.newest(0), 1);
        due.is("revive(1)", x.revive(1), 1);
        shows(x, 1, 0, 1, 1);
        x.fail(1);
        next(x, 0, 2, 20);
        due.is("a version while it is down", x.newest(0), 2);
        x.revive(1);
        shows(x, 1, 0, 2, 1);
        x.fail(1);
        x.fail(2);
        due.is("move to another one that is down", x.move(0, 2), false);
        due.is("newest(0)", x.newest(0), 2);
        due.is("revive(1)", x.revive(1), 0);
        due.is("revive(2)", x.revive(2), 1);
        shows(x, 2, 0, 2, 2);
        due.is("sum(2, 0)", x.sum(2, 0), 20);
    }

    private static void markOfMoreBallots() {
        due.part("'1 more ballots than are on the register'");
        CountHouse x = new CountHouse();
        x.precinct(0, 0, 50);
        due.is("one less", x.version(0, 1, 0, 49), 0);
        due.is("as many", x.version(0, 2, 0, 50), 0);
        due.is("one more", x.version(0, 3, 0, 51), 1);
        due.is("less again", x.version(0, 4, 0, 0), 0);
        x.precinct(1, 0, 0);
        due.is("nobody registered, no ballots", x.version(1, 1, 0, 0), 0);
        due.is("nobody registered, one", x.version(1, 2, 0, 1), 1);
        x.precinct(2, 0, MANY);
        due.is("the most of both", x.version(2, 1, 0, MANY), 0);
        x.precinct(3, 0, MANY - 1);
        due.is("the most ballots, one less registered", x.version(3, 1, 0, MANY), 1);
    }

    private static void markOfLessVotes() {
        due.part("'2 less votes for some option than in the version before it (if there is one)'");
        CountHouse x = new CountHouse();
        for (int option = 0; option < 6; option++) {
            x.precinct(option, 0, 500);
            x.votes(option, 10);
            due.is("the first one", x.version(option, 1, 0, 500), 0);
            x.votes(option, 10);
            due.is("as many", x.version(option, 2, 0, 500), 0);
            x.votes(option, 9);
            due.is("one less for option " + option, x.version(option, 3, 0, 500), 2);
            x.votes(option, 9);
            due.is("as many as right before, less than once", x.version(option, 4, 0, 500), 0);
            x.votes((option + 1) % 6, 90);
            due.is("less for one, more for another", x.version(option, 5, 0, 500), 2);
        }
        x.precinct(6, 0, 500);
        due.is("another precinct's first one", x.version(6, 1, 0, 500), 0);
    }

    private static void markOfLessThanTheNewest() {
        due.part("'the version before it', whatever is included");
        CountHouse x = new CountHouse();
        report(x, 0, 1, 10);
        x.fail(1);
        due.is("less, while nothing is included", next(x, 0, 2, 9), 2);
        due.is("more again, less than the first", next(x, 0, 3, 9), 0);

        CountHouse y = contested();
        y.move(0, 0);
        due.is("it waits, more", next(y, 0, 2, 20), 0);
        due.is("it waits, less, but more than what is included", next(y, 0, 3, 15), 2);
        shows(y, 0, 0, 1, 1);
    }

    private static void markOfMoreVotesThanBallots() {
        due.part("'4 more votes and invalid ones together than ballots'");
        CountHouse x = new CountHouse();
        for (int option = 0; option < 6; option++) {
            x.precinct(option, 0, 500);
            x.votes(option, 10);
            due.is("as many", x.version(option, 1, 5, 15), 0);
            x.votes(option, 11);
            due.is("one more for option " + option, x.version(option, 2, 5, 15), 4);
            x.votes(option, 11);
            due.is("an invalid one less", x.version(option, 3, 4, 15), 0);
            x.votes(option, 11);
            due.is("an invalid one more", x.version(option, 4, 5, 15), 4);
        }
        x.precinct(6, 0, 500);
        due.is("nothing at all", x.version(6, 1, 0, 0), 0);
        due.is("an invalid one without a ballot", x.version(6, 2, 1, 0), 4);
        for (int option = 0; option < 6; option++) {
            x.votes(option, MANY);
        }
        due.is("the most of all", x.version(6, 3, MANY, MANY), 5);
    }

    private static void marksTogether() {
        due.part("'A version has MARKS': several at once");
        for (int marks = 0; marks < 8; marks++) {
            CountHouse x = new CountHouse();
            x.precinct(0, 0, 50);
            x.votes(3, 10);
            due.is("the version before", x.version(0, 1, 0, 50), 0);
            int ballots = 50 + (marks & 1);
            int votes = 10 - (marks >> 1 & 1);
            int invalid = ballots - votes + (marks >> 2 & 1);
            x.votes(3, votes);
            due.is("marks", x.version(0, 2, invalid, ballots), marks);
            due.is("marked(0)", x.marked(0), marks == 0 ? 0 : 1);
        }
    }

    private static void officesAre0To11() {
        due.part("'OFFICES are 0 .. 11'");
        for (int edge : new int[] {0, 11}) {
            CountHouse x = new CountHouse();
            x.precinct(0, edge, 5);
            x.precinct(1, 5, 5);
            x.version(0, 1, 0, 0);
            due.is("included", x.included(edge, 0), 1);
            due.is("through", x.through(edge, 0), edge);
            due.is("sum", x.sum(edge, 0), 0);
            due.is("marked", x.marked(edge), 0);
            officeIsAll(x, edge, NONE, 0, 1, 0, 0, 0, 0, 1);
            due.is("seats", x.seats(edge, 1, 0, 0), 0);
            due.is("hang under it", x.hang(4, edge), 1);
            due.is("held", x.held(edge, 4, 0), 0);
            due.is("move to it", x.move(1, edge), false);
            due.is("fail", x.fail(edge), 1);
            due.is("revive", x.revive(edge), 1);
        }
        CountHouse y = new CountHouse();
        due.is("hang(11, 0)", y.hang(11, 0), 1);
        due.is("resend(11)", y.resend(11), 0);
        due.is("held(0, 11, 0)", y.held(0, 11, 0), 0);
        y.precinct(0, 1, 5);
        for (int wrong : NOT_OFFICES) {
            thrownByPrecinct(y, INDEX, 1, wrong, 5);
            due.thrown("hang(" + wrong + ", 0)", INDEX, () -> y.hang(wrong, 0));
            due.thrown("hang(1, " + wrong + ")", INDEX, () -> y.hang(1, wrong));
            due.thrown("fail(" + wrong + ")", INDEX, () -> y.fail(wrong));
            due.thrown("revive(" + wrong + ")", INDEX, () -> y.revive(wrong));
            due.thrown("move(0, " + wrong + ")", INDEX, () -> y.move(0, wrong));
            due.thrown("resend(" + wrong + ")", INDEX, () -> y.resend(wrong));
            due.thrown("sum(" + wrong + ", 0)", INDEX, () -> y.sum(wrong, 0));
            due.thrown("included(" + wrong + ", 0)", INDEX, () -> y.included(wrong, 0));
            due.thrown("through(" + wrong + ", 0)", INDEX, () -> y.through(wrong, 0));
            due.thrown("held(" + wrong + ", 11, 0)", INDEX, () -> y.held(wrong, 11, 0));
            due.thrown("held(0, " + wrong + ", 0)", INDEX, () -> y.held(0, wrong, 0));
            due.thrown("marked(" + wrong + ")", INDEX, () -> y.marked(wrong));
            due.thrown("office(" + wrong + ", 0)", INDEX, () -> y.office(wrong, 0));
            due.thrown("seats(" + wrong + ", 1, 0, 0)", INDEX, () -> y.seats(wrong, 1, 0, 0));
        }
    }

    private static void upOrDown() {
        due.part("'each is UP or down'");
        CountHouse x = new CountHouse();
        officeIs(x, 5, UP, 1);
        x.fail(5);
        officeIs(x, 5, UP, 0);
        officeIs(x, 4, UP, 1);
        officeIs(x, 6, UP, 1);
        x.revive(5);
        officeIs(x, 5, UP, 1);
    }

    private static void underAnotherOrNone() {
        due.part("'hangs under another one, its PARENT, or under none'");
        CountHouse x = new CountHouse();
        officeIs(x, 5, PARENT, NONE);
        x.hang(5, 0);
        officeIs(x, 5, PARENT, 0);
        officeIs(x, 0, CHILDREN, 1);
        x.hang(5, 11);
        officeIs(x, 5, PARENT, 11);
        officeIs(x, 0, CHILDREN, 0);
        officeIs(x, 11, CHILDREN, 1);
        x.fail(11);
        officeIs(x, 5, PARENT, NONE);
        officeIs(x, 11, CHILDREN, 0);
    }

    private static void epochIsOneMore() {
        due.part("'with each hanging its EPOCH (at first 0) is one more'");
        CountHouse x = new CountHouse();
        officeIs(x, 5, EPOCH, 0);
        x.hang(5, 4);
        officeIs(x, 5, EPOCH, 1);
        x.hang(5, 4);
        officeIs(x, 5, EPOCH, 2);
        x.hang(4, 3);
        officeIs(x, 5, EPOCH, 2);
        officeIs(x, 4, EPOCH, 1);
        officeIs(x, 3, EPOCH, 0);
        x.fail(4);
        officeIs(x, 5, EPOCH, 2);
        officeIs(x, 4, EPOCH, 1);
        x.revive(4);
        officeIs(x, 4, EPOCH, 1);
        due.is("the next one", x.hang(4, 3), 2);
        due.thrown("a refused one", STATE, () -> x.hang(3, 4));
        officeIs(x, 3, EPOCH, 0);
    }

    private static void oneVersionOrNone() {
        due.part("'of each precinct one version or none'");
        CountHouse x = new CountHouse();
        x.hang(1, 0);
        x.precinct(0, 1, 50);
        officeIs(x, 1, PRECINCTS, 0);
        x.version(0, 1, 0, 0);
        officeIs(x, 1, PRECINCTS, 1);
        x.version(0, 2, 0, 0);
        officeIs(x, 1, PRECINCTS, 1);
        due.is("the later in the place of the one before", x.included(1, 0), 2);
        x.deliver(0);
        due.is("above, the one before", x.included(0, 0), 1);
        x.deliver(0);
        due.is("above, the later", x.included(0, 0), 2);
        officeIs(x, 0, PRECINCTS, 1);
    }

    private static void ownOrThrough() {
        due.part("'either as its OWN (its home is this office), or THROUGH one of .. its children'");
        CountHouse x = new CountHouse();
        x.hang(1, 0);
        x.hang(2, 1);
        report(x, 0, 2, 1);
        report(x, 1, 0, 2);
        deliverAll(x);
        shows(x, 2, 0, 1, 2);
        shows(x, 1, 0, 1, 2);
        shows(x, 0, 0, 1, 1);
        shows(x, 0, 1, 1, 0);
        shows(x, 1, 1, 0, NONE);
    }

    private static void changeWithAParentOnly() {
        due.part("'Whenever that changes at a precinct, and it has a parent'");
        CountHouse x = new CountHouse();
        report(x, 0, 1, 1);
        next(x, 0, 2, 1);
        officeIs(x, 1, LINE, 0);
        due.is("without a parent", x.letters(), 0);
        x.hang(1, 0);
        officeIs(x, 1, LINE, 1);
        next(x, 0, 3, 1);
        officeIs(x, 1, LINE, 2);
        due.is("with a parent", x.letters(), 2);
        x.fail(0);
        next(x, 0, 4, 1);
        officeIs(x, 1, LINE, 0);
        due.is("without a parent again", x.letters(), 2);
    }

    private static void changeOnlyWhereItChanges() {
        due.part("'Whenever that changes at a precinct': one that waits is no change");
        CountHouse x = new CountHouse();
        x.hang(1, 4);
        x.hang(2, 1);
        x.hang(3, 1);
        report(x, 0, 2, 1);
        x.deliver(0);
        officeIs(x, 1, LINE, 1);
        x.move(0, 3);
        due.is("letters()", x.letters(), 3);
        due.is("it waits from office 3", x.deliver(2), true);
        officeIs(x, 1, LINE, 1);
        due.is("letters()", x.letters(), 2);
        due.is("it waits as own one", x.move(0, 1), false);
        officeIs(x, 1, LINE, 1);
        officeIs(x, 1, WAITING, 2);
        x.precinct(1, 1, 5);
        officeIs(x, 1, LINE, 1);
        x.version(1, 1, 0, 0);
        officeIs(x, 1, LINE, 2);
    }

    private static void changeToAVersionOr0() {
        due.part("'the precinct, and the version that is included then, or 0'");
        CountHouse x = new CountHouse();
        x.hang(1, 0);
        x.precinct(39, 1, 5);
        x.version(39, 8, 0, 0);
        x.version(39, 9, 0, 0);
        x.move(39, 2);
        x.move(39, 1);
        due.is("letters()", x.letters(), 4);
        letterIs(x, 0, 1, 1, 1, 39, 8);
        letterIs(x, 1, 1, 1, 2, 39, 9);
        letterIs(x, 2, 1, 1, 3, 39, 0);
        letterIs(x, 3, 1, 1, 4, 39, 9);
    }

    private static void lineBeginsAnew() {
        due.part("'the line begins anew with each hanging: with all that it includes then, by precincts'");
        CountHouse x = new CountHouse();
        x.hang(1, 0);
        x.hang(2, 1);
        report(x, 39, 1, 1);
        report(x, 7, 2, 2);
        report(x, 0, 1, 3);
        next(x, 39, 5, 4);
        x.move(0, 3);
        x.deliver(0);
        x.deliver(0);
        officeIs(x, 1, LINE, 5);
        officeIs(x, 1, TAKEN, 1);
        int before = x.letters();
        x.hang(1, 0);
        officeIs(x, 1, LINE, 2);
        officeIs(x, 1, TAKEN, 0);
        due.is("letters()", x.letters(), before + 2);
        letterIs(x, before, 1, 2, 1, 7, 1);
        letterIs(x, before + 1, 1, 2, 2, 39, 5);
        next(x, 39, 6, 4);
        letterIs(x, before + 2, 1, 2, 3, 39, 6);
    }

    private static void lineBeginsAnewEmpty() {
        due.part("'the line begins anew with each hanging': with nothing");
        CountHouse x = new CountHouse();
        x.precinct(0, 1, 5);
        x.hang(1, 0);
        officeIs(x, 1, LINE, 0);
        x.version(0, 1, 0, 0);
        x.move(0, 2);
        officeIs(x, 1, LINE, 2);
        x.hang(1, 0);
        officeIs(x, 1, LINE, 0);
        due.is("letters()", x.letters(), 2);
        due.is("resend(1)", x.resend(1), 0);
    }

    private static void sentIfLessThan500() {
        due.part("'if there are less than 500; else it is not sent'");
        CountHouse x = withLetters(499);
        next(x, 0, 2, 1);
        due.is("at 499 it is sent", x.letters(), 500);
        letterIs(x, 499, 1, 12, 40, 0, 2);
        officeIs(x, 1, LINE, 40);
        next(x, 1, 2, 1);
        due.is("at 500 it is not", x.letters(), 500);
        letterIs(x, 499, 1, 12, 40, 0, 2);
        officeIs(x, 1, LINE, 41);
        shows(x, 1, 1, 2, 1);
        x.drop(0);
        next(x, 2, 2, 1);
        due.is("at 499 again", x.letters(), 500);
        letterIs(x, 499, 1, 12, 42, 2, 2);
        officeIs(x, 1, LINE, 42);
        for (int i = 0; i < 42; i++) {
            x.drop(0);
        }
        due.is("what was not sent stands in the line", x.resend(1), 42);
        letterIs(x, 458 + 40, 1, 12, 41, 1, 2);
    }

    private static void sentAtHangingIfLessThan500() {
        due.part("'if there are less than 500': at a hanging");
        for (int room = 0; room < 3; room++) {
            CountHouse x = withLetters(500);
            x.move(0, 2);
            x.move(1, 2);
            for (int i = 0; i < room; i++) {
                x.drop(0);
            }
            x.hang(2, 0);
            due.is("letters()", x.letters(), 500);
            officeIs(x, 2, LINE, 2);
            due.is("the first of both is sent", x.letter(498, 0) == 2 || x.letter(499, 0) == 2, room > 0);
            due.is("the second is sent", x.letter(499, 2) == 2 && x.letter(499, 0) == 2, room > 1);
        }
    }

    private static void sentByTwoIfLessThan500() {
        due.part("'if there are less than 500': both homes of a precinct that moves");
        for (int room = 0; room < 3; room++) {
            CountHouse x = withLetters(500);
            x.hang(2, 0);
            for (int i = 0; i < room; i++) {
                x.drop(0);
            }
            x.move(5, 2);
            due.is("letters()", x.letters(), 500);
            officeIs(x, 1, LINE, 40);
            officeIs(x, 2, LINE, 1);
            if (room > 0) {
                letterIs(x, 500 - room, 1, 12, 40, 5, 0);
            }
            if (room > 1) {
                letterIs(x, 499, 2, 1, 1, 5, 1);
            }
            due.is("the new home's is sent", x.letter(499, 0) == 2, room > 1);
        }
    }

    private static void sentByOneThatTriesIfLessThan500() {
        due.part("'if there are less than 500': a letter that is gone makes room for one of two");
        CountHouse x = new CountHouse();
        x.hang(2, 1);
        x.hang(3, 1);
        report(x, 39, 2, 1);
        x.deliver(0);
        x.move(39, 3);
        x.deliver(1);
        officeIs(x, 1, WAITING, 1);
        for (int p = 0; p < 39; p++) {
            report(x, p, 1, p);
        }
        for (int i = 0; i < 13; i++) {
            x.hang(1, 0);
        }
        due.is("letters()", x.letters(), 500);
        due.is("deliver(0)", x.deliver(0), true);
        shows(x, 1, 39, 1, 3);
        officeIs(x, 1, LINE, 42);
        due.is("letters()", x.letters(), 500);
        letterIs(x, 499, 1, 13, 41, 39, 0);
    }

    private static void letterOfAnEpochAndNumber() {
        due.part("'A letter is of an office, its epoch, and a change's number'");
        CountHouse x = new CountHouse();
        x.hang(5, 4);
        x.hang(5, 4);
        report(x, 9, 5, 1);
        next(x, 9, 2, 1);
        letterIs(x, 0, 5, 2, 1, 9, 1);
        letterIs(x, 1, 5, 2, 2, 9, 2);
        x.hang(5, 4);
        x.move(9, 5 - 1);
        letterIs(x, 0, 5, 2, 1, 9, 1);
        letterIs(x, 1, 5, 2, 2, 9, 2);
        letterIs(x, 2, 5, 3, 1, 9, 2);
        letterIs(x, 3, 5, 3, 2, 9, 0);
    }

    private static void takenOfThisEpochOnly() {
        due.part("'that is the office's epoch still'");
        CountHouse x = new CountHouse();
        x.hang(1, 0);
        report(x, 0, 1, 10);
        due.is("in its epoch", x.deliver(0), true);
        next(x, 0, 2, 20);
        x.twin(0);
        due.is("number 2 in its epoch", x.deliver(0), true);
        x.hang(1, 0);
        // Letter 0 is the twin, number 2 of epoch 1; letter 1 is number 1 of epoch 2.
        due.is("number 1 of epoch 2", x.deliver(1), true);
        due.is("number 2 of epoch 1", x.deliver(0), false);
        officeIs(x, 1, TAKEN, 1);
        next(x, 0, 3, 30);
        x.hang(1, 2);
        x.twin(1);
        due.is("number 2 of epoch 2 before number 1 of epoch 3", x.deliver(0), false);
        due.is("number 1 of epoch 3", x.deliver(0), true);
        shows(x, 2, 0, 3, 1);
        shows(x, 0, 0, 0, NONE);
        x.hang(1, 0);
        due.is("under the old parent again, epoch 3", x.deliver(0), false);
        shows(x, 0, 0, 0, NONE);
        due.is("epoch 4", x.deliver(0), true);
        shows(x, 0, 0, 3, 1);
    }

    private static void takenIfItHangsThere() {
        due.part("'it hangs there'");
        CountHouse x = new CountHouse();
        x.hang(1, 0);
        report(x, 0, 1, 10);
        x.twin(0);
        due.is("it hangs there", x.deliver(0), true);
        x.twin(0);
        x.fail(0);
        officeIs(x, 1, EPOCH, 1);
        due.is("the parent is down", x.deliver(0), false);
        x.revive(0);
        due.is("the parent is up again, but it hangs nowhere", x.deliver(0), false);
        shows(x, 0, 0, 0, NONE);

        CountHouse y = new CountHouse();
        y.hang(1, 0);
        report(y, 0, 1, 10);
        y.twin(0);
        y.fail(1);
        due.is("the office is down", y.deliver(0), false);
        y.revive(1);
        due.is("the office is up again, but hangs nowhere", y.deliver(0), false);
        shows(y, 0, 0, 0, NONE);
        officeIs(y, 1, TAKEN, 0);
    }

    private static void takenIfNext() {
        due.part("'the number is the next one'");
        CountHouse x = new CountHouse();
        x.hang(1, 0);
        for (int p = 0; p < 3; p++) {
            report(x, p, 1, 1);
        }
        x.twin(0);
        x.twin(1);
        x.twin(2);
        // Letters: 1 2 3 1 2 3.
        due.is("2 before 1", x.deliver(1), false);
        due.is("1", x.deliver(0), true);
        due.is("3 before 2", x.deliver(0), false);
        due.is("1 once more", x.deliver(0), false);
        due.is("2", x.deliver(0), true);
        due.is("3", x.deliver(0), true);
        officeIs(x, 1, TAKEN, 3);
        due.is("each office has its own numbers", firstOfAnother(x), true);
    }

    private static boolean firstOfAnother(CountHouse x) {
        x.hang(2, 0);
        report(x, 9, 2, 1);
        return x.deliver(0);
    }

    private static void noOtherDoesAnything() {
        due.part("'no other one does anything'");
        CountHouse x = new CountHouse();
        x.hang(3, 0);
        x.hang(1, 3);
        report(x, 0, 1, 10);
        next(x, 0, 2, 20);
        x.twin(0);
        x.deliver(0);
        int before = x.letters();
        due.is("number 1 once more", x.deliver(1), false);
        due.is("it is gone", x.letters(), before - 1);
        shows(x, 3, 0, 1, 1);
        officeIsAll(x, 3, 0, 1, 1, 1, 0, 1, 0, 1);
        officeIsAll(x, 1, 3, 1, 1, 0, 0, 2, 1, 1);
        due.is("sum(3, 0)", x.sum(3, 0), 10);
        next(x, 0, 3, 30);
        due.is("number 3 before 2", x.deliver(x.letters() - 1), false);
        shows(x, 3, 0, 1, 1);
        officeIsAll(x, 3, 0, 1, 1, 1, 0, 1, 0, 1);
        officeIsAll(x, 1, 3, 1, 1, 0, 0, 3, 1, 1);
        due.is("a change to 0 that is not the next", lateZero(x), false);
        shows(x, 3, 0, 1, 1);
        officeIsAll(x, 1, 3, 1, 1, 0, 0, 4, 1, 0);
    }

    private static boolean lateZero(CountHouse x) {
        x.move(0, 5);
        return x.deliver(x.letters() - 1);
    }

    private static void zeroEndsWaiting() {
        due.part("'what waits for this precinct from this child waits no more'");
        CountHouse x = contested();
        x.drop(0);
        report(x, 1, 2, 1);
        next(x, 0, 2, 20);
        next(x, 1, 2, 2);
        x.move(0, 5);
        for (int i = 1; i <= 4; i++) {
            x.deliver(0);
            officeIs(x, 0, WAITING, i);
        }
        // Both of precinct 0 go; those of precinct 1 wait for nothing then, and are included.
        due.is("deliver(0)", x.deliver(0), true);
        officeIs(x, 0, WAITING, 0);
        shows(x, 0, 0, 1, 1);
        shows(x, 0, 1, 2, 2);

        due.part("'from this child': what waits from another one, and as own one, stays");
        CountHouse y = contested();
        y.hang(3, 0);
        y.drop(0);
        y.move(0, 3);
        y.deliver(2);
        y.deliver(0);
        y.move(0, 0);
        officeIs(y, 0, WAITING, 3);
        // Letter 0: office 2 has it no more; letter 1: nor has office 3.
        y.deliver(0);
        officeIs(y, 0, WAITING, 2);
        shows(y, 0, 0, 1, 1);
        y.deliver(0);
        officeIs(y, 0, WAITING, 1);
        shows(y, 0, 0, 1, 1);
    }

    private static void zeroEndsInclusion() {
        due.part("'if it is included through this child, it is not any more'");
        CountHouse x = new CountHouse();
        x.hang(1, 0);
        report(x, 0, 1, 10);
        report(x, 1, 1, 5);
        x.deliver(0);
        x.deliver(0);
        x.move(0, 5);
        due.is("deliver(0)", x.deliver(0), true);
        shows(x, 0, 0, 0, NONE);
        shows(x, 0, 1, 1, 1);
        due.is("sum(0, 0)", x.sum(0, 0), 5);
    }

    private static void zeroOfWhatIsThroughAnother() {
        due.part("'if it is included through this child': through another, or as own, it stays");
        CountHouse x = contested();
        x.move(0, 5);
        x.deliver(1);
        due.is("0 from office 2", x.deliver(1), true);
        shows(x, 0, 0, 1, 1);
        officeIs(x, 2, TAKEN, 2);

        CountHouse y = new CountHouse();
        y.hang(1, 0);
        report(y, 0, 1, 10);
        y.move(0, 0);
        shows(y, 0, 0, 1, 0);
        due.is("a late one", y.deliver(0), true);
        officeIs(y, 0, WAITING, 1);
        due.is("0 from office 1", y.deliver(0), true);
        officeIs(y, 0, WAITING, 0);
        shows(y, 0, 0, 1, 0);
    }

    private static void versionWhereNothingWaits() {
        due.part("'if nothing from this child waits, and the precinct is included .. not at all'");
        CountHouse x = new CountHouse();
        x.hang(1, 0);
        report(x, 0, 1, 10);
        shows(x, 0, 0, 0, NONE);
        x.deliver(0);
        shows(x, 0, 0, 1, 1);
        officeIs(x, 0, WAITING, 0);
    }

    private static void versionThroughThisChild() {
        due.part("'the precinct is included through this child'");
        CountHouse x = new CountHouse();
        x.hang(1, 0);
        report(x, 0, 1, 10);
        x.deliver(0);
        next(x, 0, 2, 20);
        x.deliver(0);
        shows(x, 0, 0, 2, 1);
        officeIs(x, 0, WAITING, 0);
        due.is("sum(0, 0)", x.sum(0, 0), 20);
    }

    private static void versionThroughAnother() {
        due.part("'else it WAITS': through another child");
        CountHouse x = contested();
        due.is("deliver(1)", x.deliver(1), true);
        shows(x, 0, 0, 1, 1);
        officeIs(x, 0, WAITING, 1);
        officeIs(x, 2, TAKEN, 1);
        due.is("held(0, 2, 0)", x.held(0, 2, 0), 0);
    }

    private static void versionOfAnOwnOne() {
        due.part("'else it WAITS': an own one");
        CountHouse x = new CountHouse();
        x.hang(1, 0);
        report(x, 0, 1, 10);
        x.move(0, 0);
        due.is("deliver(0)", x.deliver(0), true);
        shows(x, 0, 0, 1, 0);
        officeIs(x, 0, WAITING, 1);
        due.is("held(0, 1, 0)", x.held(0, 1, 0), 0);
    }

    private static void versionBehindWhatWaits() {
        due.part("'it WAITS, behind what waits from this child'");
        CountHouse x = contested();
        report(x, 1, 2, 1);
        x.deliver(1);
        due.is("another precinct, included not at all", x.deliver(1), true);
        shows(x, 0, 1, 0, NONE);
        officeIs(x, 0, WAITING, 2);

        due.part("'behind what waits from this child': one that is through this child already");
        CountHouse y = new CountHouse();
        y.hang(1, 4);
        y.hang(2, 1);
        y.hang(3, 1);
        report(y, 0, 2, 10);
        report(y, 1, 3, 1);
        y.deliver(0);
        y.deliver(0);
        y.drop(0);
        y.drop(0);
        y.move(0, 3);
        next(y, 1, 2, 2);
        // Letters: office 2 without precinct 0; office 3 with it; office 3 with version 2 of precinct 1.
        y.deliver(1);
        due.is("version 2", y.deliver(1), true);
        shows(y, 1, 1, 1, 3);
        officeIs(y, 1, WAITING, 2);
        y.deliver(0);
        officeIs(y, 1, WAITING, 0);
        letterIs(y, 0, 1, 1, 3, 0, 0);
        letterIs(y, 1, 1, 1, 4, 0, 1);
        letterIs(y, 2, 1, 1, 5, 1, 2);
    }

    private static void versionBesideWhatWaitsFromAnother() {
        due.part("'nothing from this child waits': what waits from another one is no hindrance");
        CountHouse x = contested();
        x.deliver(1);
        x.hang(3, 0);
        report(x, 1, 3, 1);
        report(x, 2, 1, 2);
        due.is("from office 3", x.deliver(1), true);
        shows(x, 0, 1, 1, 3);
        officeIs(x, 0, WAITING, 1);
        report(x, 3, 0, 4);
        shows(x, 0, 3, 1, 0);
        officeIs(x, 0, WAITING, 1);
    }

    private static void ownWhileDown() {
        due.part("'when a precinct gets a version, and its home is up'");
        CountHouse x = new CountHouse();
        x.precinct(0, 1, 5);
        x.fail(1);
        x.version(0, 1, 0, 0);
        shows(x, 1, 0, 0, NONE);
        officeIs(x, 1, WAITING, 0);
        x.revive(1);
        x.version(0, 2, 0, 0);
        shows(x, 1, 0, 2, 1);
    }

    private static void ownOrNotAtAll() {
        due.part("'if it is included as own, or not at all, the newest one is included; else it waits'");
        CountHouse x = new CountHouse();
        x.precinct(0, 1, 5);
        x.version(0, 1, 0, 0);
        shows(x, 1, 0, 1, 1);
        x.version(0, 2, 0, 0);
        shows(x, 1, 0, 2, 1);
        officeIs(x, 1, WAITING, 0);

        CountHouse y = new CountHouse();
        y.hang(1, 0);
        y.precinct(0, 1, 5);
        y.version(0, 1, 0, 0);
        y.deliver(0);
        y.fail(2);
        y.move(0, 2);
        y.move(0, 0);
        officeIs(y, 0, WAITING, 1);
        y.version(0, 2, 0, 0);
        shows(y, 0, 0, 1, 1);
        officeIs(y, 0, WAITING, 1);
    }

    private static void ownWaitsOnce() {
        due.part("'there is one of each precinct at most: the newest'");
        CountHouse x = new CountHouse();
        x.hang(1, 4);
        x.hang(2, 1);
        report(x, 0, 2, 10);
        report(x, 1, 2, 5);
        x.deliver(0);
        x.deliver(0);
        x.drop(0);
        x.drop(0);
        x.move(0, 1);
        officeIs(x, 1, WAITING, 1);
        next(x, 0, 2, 20);
        next(x, 0, 3, 30);
        officeIs(x, 1, WAITING, 1);
        x.move(1, 1);
        officeIs(x, 1, WAITING, 2);
        x.deliver(0);
        officeIs(x, 1, WAITING, 1);
        shows(x, 1, 0, 3, 1);
        due.is("sum(1, 0)", x.sum(1, 0), 35);
        due.is("letters()", x.letters(), 3);
        letterIs(x, 1, 1, 1, 3, 0, 0);
        letterIs(x, 2, 1, 1, 4, 0, 3);
    }

    private static void tryingOwnOnesByPrecincts() {
        due.part("'TRYING .. the own ones that wait, by precincts'");
        CountHouse x = new CountHouse();
        x.hang(1, 4);
        x.hang(2, 1);
        for (int p : new int[] {39, 0, 20}) {
            report(x, p, 2, 1);
            x.deliver(x.letters() - 1);
        }
        for (int p : new int[] {20, 39, 0}) {
            x.move(p, 1);
        }
        officeIs(x, 1, WAITING, 3);
        while (x.letters() > 0) {
            x.drop(0);
        }
        x.fail(2);
        officeIs(x, 1, WAITING, 0);
        due.is("letters()", x.letters(), 6);
        letterIs(x, 0, 1, 1, 4, 0, 0);
        letterIs(x, 1, 1, 1, 5, 20, 0);
        letterIs(x, 2, 1, 1, 6, 39, 0);
        letterIs(x, 3, 1, 1, 7, 0, 1);
        letterIs(x, 4, 1, 1, 8, 20, 1);
        letterIs(x, 5, 1, 1, 9, 39, 1);
    }

    private static void tryingOwnBeforeChildren() {
        due.part("'the own ones .., then children'");
        CountHouse x = contested();
        x.deliver(1);
        x.move(0, 0);
        officeIs(x, 0, WAITING, 2);
        x.deliver(0);
        shows(x, 0, 0, 1, 0);
        officeIs(x, 0, WAITING, 1);
    }

    private static void tryingChildrenByNumbers() {
        due.part("'then children by numbers'");
        CountHouse x = new CountHouse();
        for (int c : new int[] {11, 7, 3}) {
            x.hang(c, 0);
        }
        report(x, 0, 11, 10);
        x.deliver(0);
        x.move(0, 7);
        x.move(0, 3);
        x.move(0, 5);
        // Letters: 11 without; 7 with, without; 3 with, without. Office 7's waits first in time.
        x.deliver(1);
        x.deliver(2);
        officeIs(x, 0, WAITING, 2);
        x.deliver(0);
        shows(x, 0, 0, 1, 3);
        officeIs(x, 0, WAITING, 1);
        x.deliver(1);
        shows(x, 0, 0, 1, 7);
        officeIs(x, 0, WAITING, 0);
    }

    private static void tryingAsLongAsItGoes() {
        due.part("'each one's first waiting one and so on, as long as it goes'");
        CountHouse x = new CountHouse();
        x.hang(1, 0);
        x.hang(2, 0);
        report(x, 0, 1, 1);
        report(x, 1, 1, 2);
        x.deliver(0);
        x.deliver(0);
        x.move(0, 2);
        report(x, 5, 2, 4);
        x.move(1, 2);
        report(x, 6, 2, 8);
        // Letters: 1 without 0; 2 with 0; 2 with 5; 1 without 1; 2 with 1; 2 with 6.
        x.deliver(1);
        x.deliver(1);
        x.deliver(2);
        x.deliver(2);
        officeIs(x, 0, WAITING, 4);
        x.deliver(0);
        shows(x, 0, 0, 1, 2);
        shows(x, 0, 5, 1, 2);
        shows(x, 0, 1, 1, 1);
        due.is("6 stands behind 1, which does not go", x.included(0, 6), 0);
        officeIs(x, 0, WAITING, 2);
        x.deliver(0);
        shows(x, 0, 1, 1, 2);
        shows(x, 0, 6, 1, 2);
        officeIs(x, 0, WAITING, 0);
    }

    private static void tryingOneChildBeforeTheNext() {
        due.part("'each one's first waiting one and so on': one child's before the next one's");
        CountHouse x = new CountHouse();
        x.hang(4, 0);
        x.hang(1, 4);
        x.hang(2, 4);
        x.hang(3, 4);
        report(x, 0, 1, 1);
        report(x, 1, 1, 2);
        x.deliver(0);
        x.deliver(0);
        x.move(0, 2);
        x.move(1, 3);
        report(x, 6, 3, 4);
        report(x, 5, 2, 8);
        // From the third on: 1 without 0; 2 with 0; 1 without 1; 3 with 1; 3 with 6; 2 with 5.
        x.deliver(3);
        x.deliver(4);
        x.deliver(4);
        x.deliver(4);
        officeIs(x, 4, WAITING, 4);
        while (x.letters() > 0) {
            x.drop(0);
        }
        x.fail(1);
        officeIs(x, 4, WAITING, 0);
        due.is("letters()", x.letters(), 6);
        letterIs(x, 0, 4, 1, 3, 0, 0);
        letterIs(x, 1, 4, 1, 4, 1, 0);
        letterIs(x, 2, 4, 1, 5, 0, 1);
        letterIs(x, 3, 4, 1, 6, 5, 1);
        letterIs(x, 4, 4, 1, 7, 1, 1);
        letterIs(x, 5, 4, 1, 8, 6, 1);
    }

    private static void tryingBehindAllThatGoes() {
        due.part("'behind all of what goes at once'");
        CountHouse x = new CountHouse();
        x.hang(1, 4);
        x.hang(2, 1);
        report(x, 0, 2, 1);
        report(x, 9, 2, 2);
        x.deliver(0);
        x.deliver(0);
        x.move(0, 1);
        while (x.letters() > 0) {
            x.drop(0);
        }
        x.fail(2);
        // Precinct 9 goes before precinct 0 is tried.
        due.is("letters()", x.letters(), 3);
        letterIs(x, 0, 1, 1, 3, 0, 0);
        letterIs(x, 1, 1, 1, 4, 9, 0);
        letterIs(x, 2, 1, 1, 5, 0, 1);
    }

    private static void tryingWhenSomethingWaitsNoMore() {
        due.part("'or waits no more': what stood behind it goes");
        CountHouse x = contested();
        x.drop(0);
        report(x, 1, 2, 1);
        x.move(0, 5);
        x.deliver(0);
        x.deliver(0);
        officeIs(x, 0, WAITING, 2);
        shows(x, 0, 1, 0, NONE);
        x.deliver(0);
        shows(x, 0, 1, 1, 2);
        shows(x, 0, 0, 1, 1);
        officeIs(x, 0, WAITING, 0);
    }

    private static void tryingAtTheOldHome() {
        due.part("'whenever something is not included any more there': an own one that moves");
        CountHouse x = new CountHouse();
        x.hang(1, 0);
        report(x, 0, 1, 10);
        x.move(0, 0);
        x.deliver(0);
        shows(x, 0, 0, 1, 0);
        officeIs(x, 0, WAITING, 1);
        x.move(0, 5);
        shows(x, 0, 0, 1, 1);
        officeIs(x, 0, WAITING, 0);
        x.deliver(0);
        shows(x, 0, 0, 0, NONE);
    }

    private static void tryingAtTheOldParent() {
        due.part("'whenever something is not included any more there': a child that is hung elsewhere");
        CountHouse x = contested();
        x.deliver(1);
        x.hang(1, 5);
        shows(x, 0, 0, 1, 2);
        officeIs(x, 0, WAITING, 0);
        due.part("'whenever something is not included any more there': a child that fails");
        CountHouse y = contested();
        y.deliver(1);
        y.fail(1);
        shows(y, 0, 0, 1, 2);
        officeIs(y, 0, WAITING, 0);
    }

    private static void takenAwayByPrecincts() {
        due.part("'what is included through a child is not any more, by precincts'");
        CountHouse x = new CountHouse();
        x.hang(1, 4);
        x.hang(2, 1);
        x.hang(3, 1);
        for (int p : new int[] {39, 0, 20}) {
            report(x, p, 2, 1);
        }
        report(x, 5, 3, 1);
        report(x, 6, 1, 1);
        for (int i = 0; i < 4; i++) {
            x.deliver(0);
        }
        while (x.letters() > 0) {
            x.drop(0);
        }
        x.hang(2, 4);
        due.is("letters()", x.letters(), 6);
        letterIs(x, 0, 1, 1, 6, 0, 0);
        letterIs(x, 1, 1, 1, 7, 20, 0);
        letterIs(x, 2, 1, 1, 8, 39, 0);
        letterIs(x, 3, 2, 2, 1, 0, 1);
        shows(x, 1, 39, 0, NONE);
        shows(x, 1, 5, 1, 3);
        shows(x, 1, 6, 1, 1);
        officeIs(x, 1, PRECINCTS, 2);
    }

    private static void takenAwayForgetsWhatWaits() {
        due.part("'what waits from it is forgotten'");
        CountHouse x = contested();
        x.hang(3, 0);
        x.deliver(1);
        x.move(0, 3);
        x.deliver(2);
        officeIs(x, 0, WAITING, 2);
        x.hang(2, 4);
        officeIs(x, 0, WAITING, 1);
        x.deliver(0);
        shows(x, 0, 0, 1, 3);
        officeIs(x, 0, WAITING, 0);

        due.part("'what waits from it is forgotten': hung there anew, it does not come back");
        CountHouse y = contested();
        y.deliver(1);
        officeIs(y, 0, WAITING, 1);
        y.hang(2, 0);
        officeIs(y, 0, WAITING, 0);
        y.deliver(0);
        shows(y, 0, 0, 0, NONE);
        y.deliver(0);
        shows(y, 0, 0, 1, 2);
    }

    private static void takenAwayHangsNowhere() {
        due.part("'it hangs nowhere then, and its line is empty'");
        CountHouse x = new CountHouse();
        x.hang(1, 0);
        report(x, 0, 1, 1);
        report(x, 1, 1, 1);
        x.deliver(0);
        officeIsAll(x, 1, 0, 1, 1, 0, 0, 2, 1, 2);
        x.fail(1);
        officeIsAll(x, 1, NONE, 1, 0, 0, 0, 0, 0, 0);
        due.thrown("resend(1)", STATE, () -> x.resend(1));
        x.revive(1);
        officeIsAll(x, 1, NONE, 1, 1, 0, 0, 0, 0, 2);
        due.thrown("resend(1)", STATE, () -> x.resend(1));
    }
}
