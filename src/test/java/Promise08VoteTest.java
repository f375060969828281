/** Promise 8: vote. */
public final class Promise08VoteTest {
    private static final int OPEN = Bandwidthclub.OPEN;
    private static final int PASSED = Bandwidthclub.PASSED;
    private static final int REFUSED = Bandwidthclub.REFUSED;

    public static void main(String[] args) {
        whoCannotVote();
        moreThanHalfFor();
        halfAgainst();
        laterVotes();
        thoseWhoAreInTheClubThen();
        Check.end();
    }

    private static void whoCannotVote() {
        Bandwidthclub club = Clubs.of(4, 5, 5);
        club.propose(0, 0, 7);
        Check.throwsIndex("vote(-1, 0, true)", () -> club.vote(-1, 0, true));
        Check.throwsIndex("vote(4, 0, true)", () -> club.vote(4, 0, true));
        Check.throwsIndex("vote(0, -1, true)", () -> club.vote(0, -1, true));
        Check.throwsIndex("vote(0, 1, true)", () -> club.vote(0, 1, true));
        club.leave(3);
        Check.throwsState("vote(3, 0, true)", () -> club.vote(3, 0, true));
        Check.throwsIndex("vote(3, 1, true)", () -> club.vote(3, 1, true));
        club.vote(0, 0, true);
        Check.is("vote(1, 0, true)", club.vote(1, 0, true), PASSED);
        Check.throwsState("vote for what is passed", () -> club.vote(2, 0, false));
        Check.throwsIndex("no such member, passed", () -> club.vote(4, 0, false));
        club.propose(0, 0, 7);
        club.vote(0, 1, false);
        Check.is("vote(1, 1, false)", club.vote(1, 1, false), REFUSED);
        Check.throwsState("vote for what is refused", () -> club.vote(2, 1, true));
        Check.is("votes for it", club.proposal(1, 3), 0);
    }

    private static void moreThanHalfFor() {
        Bandwidthclub club = Clubs.of(4, 5, 5);
        club.propose(0, 0, 7);
        Check.is("1 of 4", club.vote(3, 0, true), OPEN);
        Check.is("2 of 4", club.vote(1, 0, true), OPEN);
        Check.is("3 of 4", club.vote(0, 0, true), PASSED);
        Bandwidthclub alone = Clubs.of(1, 5, 5);
        alone.propose(0, 0, 7);
        Check.is("1 of 1", alone.vote(0, 0, true), PASSED);
    }

    private static void halfAgainst() {
        Bandwidthclub club = Clubs.of(4, 5, 5);
        club.propose(0, 0, 7);
        Check.is("1 of 4", club.vote(3, 0, false), OPEN);
        Check.is("2 of 4", club.vote(1, 0, false), REFUSED);
        Bandwidthclub alone = Clubs.of(1, 5, 5);
        alone.propose(0, 0, 7);
        Check.is("1 of 1", alone.vote(0, 0, false), REFUSED);
        Bandwidthclub odd = Clubs.of(5, 5, 5);
        odd.propose(0, 0, 7);
        odd.vote(0, 0, false);
        Check.is("2 of 5", odd.vote(1, 0, false), OPEN);
        Check.is("3 of 5", odd.vote(2, 0, false), REFUSED);
    }

    private static void laterVotes() {
        Bandwidthclub club = Clubs.of(5, 5, 5);
        club.propose(0, 0, 7);
        club.vote(0, 0, true);
        club.vote(0, 0, true);
        Check.is("counted once", club.proposal(0, 3), 1);
        Check.is("another vote", club.vote(0, 0, false), OPEN);
        Check.is("for it", club.proposal(0, 3), 0);
        Check.is("against it", club.proposal(0, 4), 1);
        club.vote(1, 0, false);
        Check.is("back again", club.vote(0, 0, true), OPEN);
        Check.is("2 of 5", club.vote(2, 0, true), OPEN);
        Check.is("3 of 5", club.vote(1, 0, true), PASSED);
        Check.is("against it", club.proposal(0, 4), 0);
    }

    private static void thoseWhoAreInTheClubThen() {
        Bandwidthclub club = Clubs.of(2, 5, 5);
        club.propose(0, 0, 7);
        club.vote(0, 0, true);
        club.join(5, 5);
        club.join(5, 5);
        Check.is("2 of 4", club.vote(1, 0, true), OPEN);
        Check.is("2 of 3", club.leave(3) + club.proposal(0, 0), PASSED);
    }
}
