/** Clubs as the tests need them. */
final class Clubs {
    private Clubs() {
    }

    /** A club of so many members, each with the same line and the same cache. */
    static Bandwidthclub of(int members, int units, int room) {
        Bandwidthclub club = new Bandwidthclub();
        for (int m = 0; m < members; m++) {
            club.join(units, room);
        }
        return club;
    }

    /** A club of members with such lines, and no room in their caches. */
    static Bandwidthclub withLines(int... units) {
        Bandwidthclub club = new Bandwidthclub();
        for (int line : units) {
            club.join(line, 0);
        }
        return club;
    }

    static Bandwidthclub withFilms(Bandwidthclub club, int... sizes) {
        for (int size : sizes) {
            club.film(size);
        }
        return club;
    }

    /** Lets hours pass up to the hour; by counting itself, so that it ends with any club. */
    static void passTo(Bandwidthclub club, int hour) {
        for (int now = club.hour(); now < hour; now += 100) {
            club.pass(Math.min(100, hour - now));
        }
    }

    /** What a unit from outside costs in an hour, by the first rules. */
    static int priceIn(int hour) {
        Bandwidthclub club = withFilms(of(1, 1, 0), 1);
        passTo(club, hour);
        return club.fetch(0, 0);
    }

    /** Member 0 proposes, and as many as it takes vote for it. */
    static int passRule(Bandwidthclub club, int rule, int value) {
        int proposal = club.propose(0, rule, value);
        for (int m = 0; m < 10 && club.proposal(proposal, 0) == Bandwidthclub.OPEN; m++) {
            club.vote(m, proposal, true);
        }
        return proposal;
    }
}
