/** Clubs as the tests need them. */
final class Clubs {
    private Clubs() {
    }

    /** A club of so many members, each with the same line and the same cache. */
    static Bandwidthclub of(int members, int units, int room) {
        Bandwidthclub club = new Bandwidthclub();
        for (int m = 0; m < members; m++) {
            club.join(units, room);
        }
        return club;
    }

    static Bandwidthclub withFilms(Bandwidthclub club, int... sizes) {
        for (int size : sizes) {
            club.film(size);
        }
        return club;
    }

    /** Lets hours pass up to the hour. */
    static void passTo(Bandwidthclub club, int hour) {
        while (club.hour() < hour) {
            club.pass(Math.min(100, hour - club.hour()));
        }
    }

    /** Member 0 proposes, and as many as it takes vote for it. */
    static int passRule(Bandwidthclub club, int rule, int value) {
        int proposal = club.propose(0, rule, value);
        for (int m = 0; club.proposal(proposal, 0) == Bandwidthclub.OPEN; m++) {
            club.vote(m, proposal, true);
        }
        return proposal;
    }
}
