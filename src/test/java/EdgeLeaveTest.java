/** "To leave": each sentence that names an edge, by itself. */
public final class EdgeLeaveTest {
    private static final int OPEN = Bandwidthclub.OPEN;
    private static final int PASSED = Bandwidthclub.PASSED;
    private static final int REFUSED = Bandwidthclub.REFUSED;

    public static void main(String[] args) {
        dropsItsCache();
        dropsItsVotes();
        votesOfDecidedOnesStay();
        paysWhatItOwes();
        isPaidWhatItIsOwed();
        paysAndIsPaid();
        anotherOneInTheClub();
        nothingIsOwedThen();
        openOnesAreLookedAtAgain();
        decidedInTheHourOfLeaving();
        theLastOneLeaves();
        itsAccountThen();
        Check.end();
    }

    private static void dropsItsCache() {
        Check.sentence("to leave is to drop what is in the cache");
        Bandwidthclub club = Clubs.withFilms(Clubs.of(2, 20, 50), 5, 20, 10);
        for (int f = 0; f < 3; f++) {
            club.fetch(1, f);
            club.pass(1);
        }
        Check.is("told ahead of it", Seen.told(club), "0;1,5,20,10;");
        club.leave(1);
        for (int f = 0; f < 3; f++) {
            Check.is("has(1, " + f + ")", club.has(1, f), false);
        }
        Check.is("used by 1", club.member(1, 2), 0);
        Check.is("told", Seen.told(club), "0;");
        Check.is("fetch(0, 1) from outside", club.fetch(0, 1), 40);
    }

    private static void dropsItsVotes() {
        Check.sentence("to leave is to drop the votes for and against");
        Bandwidthclub club = Clubs.of(9, 5, 5);
        for (int p = 0; p < 30; p++) {
            club.propose(0, p % 3, 5);
            club.vote(8, p, p % 2 == 0);
            club.vote(3, p, true);
        }
        club.leave(8);
        for (int p = 0; p < 30; p++) {
            Check.is("those for " + p, club.proposal(p, 3), 1);
            Check.is("those against " + p, club.proposal(p, 4), 0);
        }
    }

    private static void votesOfDecidedOnesStay() {
        Check.sentence("as it was decided, if it was");
        Bandwidthclub club = Clubs.of(3, 5, 5);
        club.propose(0, 0, 5);
        club.propose(0, 1, 5);
        club.vote(0, 0, false);
        club.vote(1, 0, true);
        club.vote(2, 0, true);
        club.vote(0, 1, true);
        club.vote(1, 1, false);
        club.vote(2, 1, false);
        for (int m = 2; m >= 0; m--) {
            club.leave(m);
            Check.is("the passed one", club.proposal(0, 0), PASSED);
            Check.is("those for it", club.proposal(0, 3), 2);
            Check.is("those against it", club.proposal(0, 4), 1);
            Check.is("the refused one", club.proposal(1, 0), REFUSED);
            Check.is("those for it", club.proposal(1, 3), 1);
            Check.is("those against it", club.proposal(1, 4), 2);
        }
        club.pass(1);
        Check.is("rule(0) with nobody in the club", club.rule(0), 5);
    }

    private static void paysWhatItOwes() {
        Check.sentence("for each unit that it owes another one in the club it pays that one 1");
        Bandwidthclub club = Clubs.withLines(1, 4, 3);
        Clubs.withFilms(club, 6);
        club.fetch(0, 0);
        Check.is("leave(0), which owes 4 and 1", club.leave(0), -12 - 5);
        Check.accounts(club, -17, 4, 1);
    }

    private static void isPaidWhatItIsOwed() {
        Check.sentence("for each that another one owes it that one pays 1");
        Bandwidthclub club = Clubs.withLines(2, 5, 2);
        Clubs.withFilms(club, 4, 5);
        club.fetch(0, 0);
        club.fetch(2, 1);
        Check.is("leave(1), which is owed 2 and 3", club.leave(1), 5);
        Check.accounts(club, -8 - 2, 5, -10 - 3);
    }

    private static void paysAndIsPaid() {
        Check.sentence("it pays that one 1, and that one pays 1");
        Bandwidthclub club = Clubs.withLines(4, 3, 1);
        Clubs.withFilms(club, 4, 5);
        club.fetch(2, 0);
        club.pass(1);
        club.fetch(1, 1);
        Check.is("owes(2, 0)", club.owes(2, 0), 3);
        Check.is("owes(1, 0)", club.owes(1, 0), 2);
        club.pass(1);
        club.fetch(0, 1);
        Check.is("owes(0, 1), met by what 1 owes", club.owes(0, 1), 0);
        Check.is("owes(1, 0) still", club.owes(1, 0), 1);
        Check.is("leave(1), which owes 1", club.leave(1), -10 - 1);
        Check.is("leave(0), which is owed 3", club.leave(0), -10 + 1 + 3);
        Check.accounts(club, -6, -11, -8 - 3);
    }

    private static void anotherOneInTheClub() {
        Check.sentence("another one in the club");
        Bandwidthclub club = Clubs.withLines(1, 4, 3);
        Clubs.withFilms(club, 8);
        club.fetch(0, 0);
        club.leave(1);
        Check.accounts(club, -16 - 4, 4, 0);
        club.leave(0);
        Check.accounts(club, -20 - 3, 4, 3);
        club.leave(2);
        Check.accounts(club, -23, 4, 3);
    }

    private static void nothingIsOwedThen() {
        Check.sentence("nothing is owed then");
        Bandwidthclub club = Clubs.withLines(1, 4, 3);
        Clubs.withFilms(club, 8, 5);
        club.fetch(0, 0);
        club.pass(1);
        club.fetch(2, 1);
        Check.is("owes(2, 1)", club.owes(2, 1), 2);
        club.leave(1);
        for (int m = 0; m < 3; m++) {
            Check.is("owes(1, " + m + ")", club.owes(1, m), 0);
            Check.is("owes(" + m + ", 1)", club.owes(m, 1), 0);
            Check.is("owesAnew(1, " + m + ")", club.owesAnew(1, m), 0);
            Check.is("owesAnew(" + m + ", 1)", club.owesAnew(m, 1), 0);
        }
        Check.is("owes(0, 2) of those who stay", club.owes(0, 2), 3);
        Check.is("owesAnew(0, 2) of those who stay", club.owesAnew(0, 2), 3);
    }

    private static void openOnesAreLookedAtAgain() {
        Check.sentence("proposals that are OPEN are looked at again");
        Bandwidthclub club = Clubs.of(6, 5, 5);
        for (int p = 0; p < 4; p++) {
            club.propose(0, 0, 5);
        }
        for (int m = 0; m < 2; m++) {
            club.vote(m, 0, true);
            club.vote(m, 1, false);
        }
        club.vote(5, 2, true);
        club.vote(0, 2, true);
        club.vote(1, 2, true);
        club.vote(4, 3, false);
        club.vote(0, 3, false);
        club.leave(5);
        statesAre("2 of 5", club, OPEN, OPEN, OPEN, OPEN);
        club.leave(4);
        statesAre("2 of 4", club, OPEN, REFUSED, OPEN, OPEN);
        club.leave(3);
        statesAre("2 of 3", club, PASSED, REFUSED, PASSED, OPEN);
        club.leave(2);
        statesAre("1 of 2", club, PASSED, REFUSED, PASSED, REFUSED);
    }

    private static void statesAre(String when, Bandwidthclub club, int... due) {
        for (int p = 0; p < due.length; p++) {
            Check.is(when + ": proposal " + p, club.proposal(p, 0), due[p]);
        }
    }

    private static void decidedInTheHourOfLeaving() {
        Check.sentence("in force from the next hour on (passed by a leaving)");
        Bandwidthclub club = Clubs.of(4, 5, 5);
        club.propose(0, 0, 5);
        club.propose(0, 0, 6);
        club.vote(0, 0, true);
        club.vote(1, 0, true);
        club.vote(0, 1, true);
        club.vote(1, 1, true);
        club.pass(7);
        club.leave(3);
        Check.is("rule(0) in the hour", club.rule(0), 4);
        club.pass(1);
        Check.is("rule(0) in the next hour, of both the higher number", club.rule(0), 6);
    }

    private static void theLastOneLeaves() {
        Check.sentence("with nobody in the club it stays OPEN (as the last one leaves)");
        Bandwidthclub club = Clubs.of(1, 5, 5);
        club.propose(0, 0, 5);
        Check.is("leave(0)", club.leave(0), 0);
        Check.is("the proposal", club.proposal(0, 0), OPEN);
        Check.is("told", club.told(0), 0);
        Check.throwsState("propose(0, 0, 5)", () -> club.propose(0, 0, 5));
    }

    private static void itsAccountThen() {
        Check.sentence("returns its account then");
        Bandwidthclub club = Clubs.withFilms(Clubs.of(3, 5, 5), 7, 5);
        club.fetch(0, 0);
        club.fetch(2, 1);
        club.pass(1);
        club.fetch(1, 1);
        Check.is("leave(0)", club.leave(0), -14 - 2);
        Check.is("leave(1)", club.leave(1), 2 - 5);
        Check.is("leave(2)", club.leave(2), -10 + 5);
        Check.accounts(club, -16, -3, -5);
        Check.throwsState("leave(0) again", () -> club.leave(0));
        Check.throwsIndex("leave(3)", () -> club.leave(3));
        Check.throwsIndex("leave(-1)", () -> club.leave(-1));
    }
}
