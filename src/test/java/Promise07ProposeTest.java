/** Promise 7: propose. */
public final class Promise07ProposeTest {
    public static void main(String[] args) {
        Bandwidthclub club = Clubs.of(3, 5, 5);
        Check.throwsIndex("propose(-1, 0, 0)", () -> club.propose(-1, 0, 0));
        Check.throwsIndex("propose(3, 0, 0)", () -> club.propose(3, 0, 0));
        Check.throwsIndex("propose(0, -1, 0)", () -> club.propose(0, -1, 0));
        Check.throwsIndex("propose(0, 3, 0)", () -> club.propose(0, 3, 0));
        Check.throwsArgument("propose(0, 0, -1)", () -> club.propose(0, 0, -1));
        Check.throwsArgument("propose(0, 0, 10)", () -> club.propose(0, 0, 10));
        Check.throwsIndex("propose(0, 3, 10)", () -> club.propose(0, 3, 10));
        Check.throwsIndex("propose(3, 0, 10)", () -> club.propose(3, 0, 10));
        club.leave(2);
        Check.throwsState("propose(2, 0, 0)", () -> club.propose(2, 0, 0));
        Check.throwsArgument("propose(2, 0, 10)", () -> club.propose(2, 0, 10));
        Check.throwsIndex("propose(2, 3, 0)", () -> club.propose(2, 3, 0));

        Check.is("propose(0, 0, 0)", club.propose(0, 0, 0), 0);
        Check.is("who proposes is not yet for it", club.proposal(0, 3), 0);
        Check.is("propose(1, 2, 9)", club.propose(1, 2, 9), 1);
        Check.is("the value that the rule has", club.propose(1, 1, 2), 2);
        for (int p = 3; p < 30; p++) {
            Check.is("propose(0, 1, 5)", club.propose(0, 1, 5), p);
        }
        Check.throwsState("the thirty-first", () -> club.propose(0, 1, 5));
        Check.throwsArgument("the thirty-first out of range", () -> club.propose(0, 1, 10));
        Check.is("the thirtieth", club.proposal(29, 1), 1);
        Check.end();
    }
}
