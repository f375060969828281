/** What is thrown, and in which order, by each call of the face: each sentence by itself. */
public final class EdgeCallsTest {
    private static final int LEAST = Integer.MIN_VALUE;
    private static final int MOST = Integer.MAX_VALUE;

    private interface Asked {
        void with(int argument);
    }

    public static void main(String[] args) {
        noSuchMember();
        noSuchFilm();
        noSuchRule();
        noSuchProposal();
        argumentOutOfRange();
        indexAheadOfArgument();
        indexAheadOfState();
        argumentAheadOfState();
        numbersAreThoseThatWereGiven();
        Check.end();
    }

    /** Three members, of whom 2 left; films 0 and 1; proposals 0, open, and 1, refused. */
    private static Bandwidthclub club() {
        Bandwidthclub club = Clubs.withFilms(Clubs.of(3, 5, 5), 5, 20);
        club.propose(0, 0, 5);
        int refused = club.propose(0, 0, 5);
        club.leave(2);
        club.vote(0, refused, false);
        return club;
    }

    private static void throwsIndex(String call, int count, Asked asked) {
        for (int number : new int[] {LEAST, -1, count, count + 1, 30, MOST}) {
            Check.throwsIndex(call + " of " + number, () -> asked.with(number));
        }
    }

    private static void noSuchMember() {
        Check.sentence("an IndexOutOfBoundsException is thrown if there is no such member");
        Bandwidthclub club = club();
        throwsIndex("leave", 3, n -> club.leave(n));
        throwsIndex("fetch", 3, n -> club.fetch(n, 0));
        throwsIndex("propose", 3, n -> club.propose(n, 0, 5));
        throwsIndex("vote", 3, n -> club.vote(n, 0, true));
        throwsIndex("member", 3, n -> club.member(n, 0));
        throwsIndex("has", 3, n -> club.has(n, 0));
        throwsIndex("accountAnew", 3, n -> club.accountAnew(n));
        throwsIndex("owes", 3, n -> club.owes(n, 0));
        throwsIndex("owes, the other", 3, n -> club.owes(0, n));
        throwsIndex("owes, both", 3, n -> club.owes(n, n));
        throwsIndex("owesAnew", 3, n -> club.owesAnew(n, 0));
        throwsIndex("owesAnew, the other", 3, n -> club.owesAnew(0, n));
        throwsIndex("owesAnew, both", 3, n -> club.owesAnew(n, n));
    }

    private static void noSuchFilm() {
        Check.sentence("an IndexOutOfBoundsException is thrown if there is no such film");
        Bandwidthclub club = club();
        throwsIndex("fetch", 2, n -> club.fetch(0, n));
        throwsIndex("has", 2, n -> club.has(0, n));
        throwsIndex("worth", 2, n -> club.worth(n));
    }

    private static void noSuchRule() {
        Check.sentence("an IndexOutOfBoundsException is thrown if there is no such rule");
        Bandwidthclub club = club();
        throwsIndex("propose", 3, n -> club.propose(0, n, 5));
        throwsIndex("rule", 3, n -> club.rule(n));
    }

    private static void noSuchProposal() {
        Check.sentence("an IndexOutOfBoundsException is thrown if there is no such proposal");
        Bandwidthclub club = club();
        throwsIndex("vote", 2, n -> club.vote(0, n, true));
        throwsIndex("proposal", 2, n -> club.proposal(n, 0));
        Check.sentence("an IndexOutOfBoundsException if at is below 0");
        Check.throwsIndex("told(-1)", () -> club.told(-1));
        Check.throwsIndex("told(least)", () -> club.told(LEAST));
    }

    /** One too small, one too large, and far beyond; the edges themselves are taken. */
    private static void throwsArgument(String call, int first, int last, Asked asked) {
        for (int argument : new int[] {LEAST, first - 1, last + 1, MOST}) {
            Check.throwsArgument(call + " with " + argument, () -> asked.with(argument));
        }
        Check.throwsNothing(call + " with " + first, () -> asked.with(first));
        Check.throwsNothing(call + " with " + last, () -> asked.with(last));
    }

    private static void argumentOutOfRange() {
        Check.sentence("an IllegalArgumentException if another argument is out of range");
        Bandwidthclub club = club();
        throwsArgument("join of units", 1, 20, n -> club.join(n, 5));
        throwsArgument("join of room", 0, 50, n -> club.join(5, n));
        throwsArgument("film", 1, 20, n -> club.film(n));
        throwsArgument("pass", 1, 100, n -> club.pass(n));
        throwsArgument("propose of value", 0, 9, n -> club.propose(0, 0, n));
        throwsArgument("proposal, what", 0, 4, n -> club.proposal(0, n));
        throwsArgument("member, what", 0, 4, n -> club.member(0, n));
        Check.throwsArgument("join of both", () -> club.join(0, -1));
    }

    private static void indexAheadOfArgument() {
        Check.sentence("the one that is listed first is thrown (index, argument)");
        Bandwidthclub club = club();
        throwsIndex("propose with a wrong value", 3, n -> club.propose(n, 0, 10));
        throwsIndex("propose with a wrong value", 3, n -> club.propose(0, n, -1));
        throwsIndex("proposal with a wrong what", 2, n -> club.proposal(n, 5));
        throwsIndex("member with a wrong what", 3, n -> club.member(n, -1));
    }

    private static void indexAheadOfState() {
        Check.sentence("the one that is listed first is thrown (index, state)");
        Bandwidthclub club = club();
        throwsIndex("fetch by one that left", 2, n -> club.fetch(2, n));
        throwsIndex("fetch of what is too large", 3, n -> club.fetch(n, 1));
        throwsIndex("propose by one that left", 3, n -> club.propose(2, n, 5));
        throwsIndex("vote by one that left", 2, n -> club.vote(2, n, true));
        throwsIndex("vote on a refused one", 3, n -> club.vote(n, 1, true));
        for (int p = 2; p < 30; p++) {
            club.propose(0, 0, 5);
        }
        throwsIndex("the thirty-first proposal", 3, n -> club.propose(n, 0, 5));
        throwsIndex("the thirty-first proposal", 3, n -> club.propose(0, n, 5));
        club.fetch(0, 0);
        for (int n = 1; n < 300; n++) {
            club.fetch(0, 0);
        }
        throwsIndex("the 301st fetch", 3, n -> club.fetch(n, 0));
        throwsIndex("the 301st fetch", 2, n -> club.fetch(0, n));
    }

    private static void argumentAheadOfState() {
        Check.sentence("the one that is listed first is thrown (argument, state)");
        Bandwidthclub club = club();
        Check.throwsArgument("propose by one that left", () -> club.propose(2, 0, 10));
        for (int p = 2; p < 30; p++) {
            club.propose(0, 0, 5);
        }
        Check.throwsArgument("the thirty-first proposal", () -> club.propose(0, 0, -1));
        for (int m = 3; m < 10; m++) {
            club.join(5, 5);
        }
        Check.throwsArgument("the eleventh member, units", () -> club.join(21, 5));
        Check.throwsArgument("the eleventh member, room", () -> club.join(5, 51));
        for (int f = 2; f < 20; f++) {
            club.film(5);
        }
        Check.throwsArgument("the twenty-first film", () -> club.film(21));
        Clubs.passTo(club, 2000);
        Check.throwsArgument("pass(101) to 2101", () -> club.pass(101));
        Check.throwsArgument("pass(0) at 2000", () -> club.pass(0));
        Check.throwsState("pass(1) to 2001", () -> club.pass(1));
        Check.throwsState("pass(100) to 2100", () -> club.pass(100));
    }

    private static void numbersAreThoseThatWereGiven() {
        Check.sentence("no such member (one that left is one still)");
        Bandwidthclub club = club();
        Check.is("member(2, 0)", club.member(2, 0), 0);
        Check.is("accountAnew(2)", club.accountAnew(2), 0);
        Check.is("owes(2, 0)", club.owes(2, 0), 0);
        Check.is("owesAnew(0, 2)", club.owesAnew(0, 2), 0);
        Check.is("has(2, 1)", club.has(2, 1), false);
        Check.throwsState("fetch(2, 0)", () -> club.fetch(2, 0));
        Check.throwsState("leave(2)", () -> club.leave(2));
    }
}
