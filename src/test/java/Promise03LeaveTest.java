/** Promise 3: leave. */
public final class Promise03LeaveTest {
    public static void main(String[] args) {
        whoCannotLeave();
        whatIsDropped();
        debtsArePaid();
        proposalsAreLookedAtAgain();
        lastOneLeaves();
        Check.end();
    }

    private static void whoCannotLeave() {
        Bandwidthclub club = Clubs.of(2, 5, 5);
        Check.throwsIndex("leave(-1)", () -> club.leave(-1));
        Check.throwsIndex("leave(2)", () -> club.leave(2));
        Check.throwsIndex("leave(most)", () -> club.leave(Integer.MAX_VALUE));
        Check.is("leave(1)", club.leave(1), 0);
        Check.throwsState("leave(1) again", () -> club.leave(1));
    }

    private static void whatIsDropped() {
        Bandwidthclub club = Clubs.withFilms(Clubs.of(3, 10, 20), 6);
        Check.is("fetch(0, 0)", club.fetch(0, 0), 12);
        Check.is("leave(0)", club.leave(0), -12);
        Check.is("0 in the club", club.member(0, 0), 0);
        Check.is("line of 0", club.member(0, 1), 0);
        Check.is("cache of 0", club.member(0, 2), 0);
        Check.is("account of 0", club.member(0, 3), -12);
        Check.is("fetched by 0", club.member(0, 4), 1);
        Check.is("has(0, 0)", club.has(0, 0), false);
        Check.is("told", Seen.told(club), "1;2;");
        club.pass(1);
        Check.is("line of 0 an hour later", club.member(0, 1), 0);
        Check.is("from outside, with 0 gone", club.fetch(1, 0), 12);
        Check.throwsState("fetch(0, 0)", () -> club.fetch(0, 0));
    }

    private static void debtsArePaid() {
        Bandwidthclub club = new Bandwidthclub();
        club.join(1, 0);
        club.join(3, 0);
        club.join(2, 0);
        Clubs.withFilms(club, 6, 3);
        Check.is("fetch(0, 0)", club.fetch(0, 0), 12);
        Check.is("owes(0, 1)", club.owes(0, 1), 3);
        Check.is("owes(0, 2)", club.owes(0, 2), 2);
        club.pass(1);
        Check.is("fetch(2, 1)", club.fetch(2, 1), 6);
        Check.is("owes(2, 1)", club.owes(2, 1), 1);
        Check.is("leave(1)", club.leave(1), 3 + 1);
        Check.is("account of 0", club.member(0, 3), -12 - 3);
        Check.is("account of 2", club.member(2, 3), -6 - 1);
        Check.is("owes(0, 1) then", club.owes(0, 1), 0);
        Check.is("owes(2, 1) then", club.owes(2, 1), 0);
        Check.is("owes(0, 2) still", club.owes(0, 2), 2);
        Check.is("leave(0)", club.leave(0), -15 - 2);
        Check.is("account of 2", club.member(2, 3), -7 + 2);
        Check.is("account of 1 stays", club.member(1, 3), 4);
    }

    private static void proposalsAreLookedAtAgain() {
        Bandwidthclub club = Clubs.of(5, 5, 5);
        int passing = club.propose(0, 0, 9);
        int refused = club.propose(0, 1, 9);
        int open = club.propose(0, 2, 9);
        club.vote(0, passing, true);
        club.vote(1, passing, true);
        club.vote(0, refused, false);
        club.vote(1, refused, false);
        club.vote(4, open, true);
        club.vote(1, open, false);
        Check.is("2 of 5 are for it", club.proposal(passing, 0), Bandwidthclub.OPEN);
        Check.is("2 of 5 are against it", club.proposal(refused, 0), Bandwidthclub.OPEN);
        club.leave(4);
        Check.is("2 of 4 are for it", club.proposal(passing, 0), Bandwidthclub.OPEN);
        Check.is("2 of 4 are against it", club.proposal(refused, 0), Bandwidthclub.REFUSED);
        Check.is("the vote of 4 is dropped", club.proposal(open, 3), 0);
        club.leave(3);
        Check.is("2 of 3 are for it", club.proposal(passing, 0), Bandwidthclub.PASSED);
        Check.is("1 of 3 is against it", club.proposal(open, 0), Bandwidthclub.OPEN);
        Check.is("rule(0) in this hour", club.rule(0), 4);
        club.pass(1);
        Check.is("rule(0) in the next hour", club.rule(0), 9);
        club.leave(1);
        Check.is("votes against the open one", club.proposal(open, 4), 0);
        Check.is("votes for the passed one stay", club.proposal(passing, 3), 2);
        Check.is("votes against the refused one stay", club.proposal(refused, 4), 2);
        Check.is("0 of 2 are against it", club.proposal(open, 0), Bandwidthclub.OPEN);
    }

    private static void lastOneLeaves() {
        Bandwidthclub club = Clubs.of(1, 5, 5);
        club.propose(0, 0, 0);
        Check.is("leave(0)", club.leave(0), 0);
        Check.is("open with nobody", club.proposal(0, 0), Bandwidthclub.OPEN);
        club.join(5, 5);
        Check.is("vote(1, 0, true)", club.vote(1, 0, true), Bandwidthclub.PASSED);
    }
}
