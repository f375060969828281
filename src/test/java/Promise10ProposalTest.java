/** Promise 10: proposal. */
public final class Promise10ProposalTest {
    public static void main(String[] args) {
        Bandwidthclub club = Clubs.of(5, 5, 5);
        Check.throwsIndex("proposal(0, 0)", () -> club.proposal(0, 0));
        club.propose(1, 2, 9);
        Check.throwsIndex("proposal(-1, 0)", () -> club.proposal(-1, 0));
        Check.throwsIndex("proposal(1, 0)", () -> club.proposal(1, 0));
        Check.throwsIndex("proposal(1, 5)", () -> club.proposal(1, 5));
        Check.throwsArgument("proposal(0, -1)", () -> club.proposal(0, -1));
        Check.throwsArgument("proposal(0, 5)", () -> club.proposal(0, 5));
        tells(club, Bandwidthclub.OPEN, 0, 0);
        club.vote(0, 0, true);
        club.vote(1, 0, true);
        club.vote(2, 0, false);
        tells(club, Bandwidthclub.OPEN, 2, 1);
        club.leave(1);
        tells(club, Bandwidthclub.OPEN, 1, 1);
        club.vote(3, 0, true);
        tells(club, Bandwidthclub.OPEN, 2, 1);
        club.vote(4, 0, true);
        tells(club, Bandwidthclub.PASSED, 3, 1);
        club.leave(0);
        club.leave(2);
        tells(club, Bandwidthclub.PASSED, 3, 1);
        refusedAsItWasDecided();
        Check.end();
    }

    private static void tells(Bandwidthclub club, int how, int isFor, int isAgainst) {
        Check.is("proposal(0, 0)", club.proposal(0, 0), how);
        Check.is("proposal(0, 1)", club.proposal(0, 1), 2);
        Check.is("proposal(0, 2)", club.proposal(0, 2), 9);
        Check.is("proposal(0, 3)", club.proposal(0, 3), isFor);
        Check.is("proposal(0, 4)", club.proposal(0, 4), isAgainst);
    }

    private static void refusedAsItWasDecided() {
        Bandwidthclub club = Clubs.of(4, 5, 5);
        club.propose(0, 2, 9);
        club.vote(3, 0, true);
        club.vote(0, 0, false);
        club.vote(1, 0, false);
        tells(club, Bandwidthclub.REFUSED, 1, 2);
        club.leave(3);
        club.leave(0);
        club.leave(1);
        club.leave(2);
        tells(club, Bandwidthclub.REFUSED, 1, 2);
    }
}
