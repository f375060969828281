/** Promise 9: rule. */
public final class Promise09RuleTest {
    public static void main(String[] args) {
        firstValues();
        inForceFromTheNextHour();
        latestAndHighest();
        Check.end();
    }

    private static void firstValues() {
        Bandwidthclub club = new Bandwidthclub();
        Check.is("rule(0)", club.rule(0), 4);
        Check.is("rule(1)", club.rule(1), 2);
        Check.is("rule(2)", club.rule(2), 1);
        Check.throwsIndex("rule(-1)", () -> club.rule(-1));
        Check.throwsIndex("rule(3)", () -> club.rule(3));
        Check.throwsIndex("rule(least)", () -> club.rule(Integer.MIN_VALUE));
    }

    private static void inForceFromTheNextHour() {
        Bandwidthclub club = Clubs.of(1, 5, 5);
        Clubs.passRule(club, 1, 9);
        club.propose(0, 2, 7);
        club.vote(0, club.propose(0, 2, 8), false);
        Check.is("rule(1) in this hour", club.rule(1), 2);
        club.pass(1);
        Check.is("rule(1) in the next hour", club.rule(1), 9);
        Check.is("rule(0) by no proposal", club.rule(0), 4);
        Check.is("rule(2) by one open and one refused", club.rule(2), 1);
        Clubs.passRule(club, 0, 0);
        club.pass(50);
        Check.is("rule(0) many hours later", club.rule(0), 0);
    }

    private static void latestAndHighest() {
        Bandwidthclub club = Clubs.of(1, 5, 5);
        int low = club.propose(0, 0, 5);
        int high = club.propose(0, 0, 6);
        int last = club.propose(0, 0, 7);
        club.vote(0, high, true);
        club.vote(0, low, true);
        club.pass(1);
        Check.is("of one hour, the highest number", club.rule(0), 6);
        club.vote(0, last, true);
        Check.is("in this hour as it was", club.rule(0), 6);
        club.pass(1);
        Check.is("the latest", club.rule(0), 7);

        Bandwidthclub other = Clubs.of(1, 5, 5);
        int first = other.propose(0, 0, 5);
        int second = other.propose(0, 0, 6);
        other.vote(0, second, true);
        other.pass(1);
        other.vote(0, first, true);
        Check.is("the second", other.rule(0), 6);
        other.pass(1);
        Check.is("the first, which came into force the latest", other.rule(0), 5);
    }
}
