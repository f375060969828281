/** A call that throws changes nothing: a club that had such a call looks like one that had none. */
public final class NothingChangedTest {
    private interface Maker {
        Bandwidthclub make();
    }

    private interface ClubCall {
        void run(Bandwidthclub club);
    }

    public static void main(String[] args) {
        rangesOfWhatIsMade();
        fetching();
        voting();
        limits();
        Check.end();
    }

    /** Four members, of whom 2 left; films 0 to 2; debts, caches and proposals of each kind. */
    private static Bandwidthclub usedClub() {
        Bandwidthclub club = Clubs.withFilms(Clubs.of(4, 6, 9), 8, 4, 20);
        Clubs.passTo(club, 20);
        club.fetch(0, 0);
        club.fetch(1, 1);
        club.fetch(3, 1);
        Clubs.passRule(club, 0, 8);
        int refused = club.propose(1, 1, 1);
        club.vote(0, refused, false);
        club.vote(1, refused, false);
        club.vote(3, club.propose(3, 2, 5), true);
        club.leave(2);
        return club;
    }

    private static void rangesOfWhatIsMade() {
        changesNothing("join(0, 5)", club -> club.join(0, 5));
        changesNothing("join(5, 51)", club -> club.join(5, 51));
        changesNothing("film(21)", club -> club.film(21));
        changesNothing("pass(101)", club -> club.pass(101));
        changesNothing("leave(4)", club -> club.leave(4));
        changesNothing("leave(2)", club -> club.leave(2));
    }

    private static void fetching() {
        changesNothing("fetch(4, 0)", club -> club.fetch(4, 0));
        changesNothing("fetch(0, 3)", club -> club.fetch(0, 3));
        changesNothing("fetch(2, 0)", club -> club.fetch(2, 0));
        changesNothing("fetch(0, 2), which is too large", club -> club.fetch(0, 2));
    }

    private static void voting() {
        changesNothing("propose(0, 3, 0)", club -> club.propose(0, 3, 0));
        changesNothing("propose(0, 0, 10)", club -> club.propose(0, 0, 10));
        changesNothing("propose(2, 0, 0)", club -> club.propose(2, 0, 0));
        changesNothing("vote(0, 3, true)", club -> club.vote(0, 3, true));
        changesNothing("vote(2, 2, true)", club -> club.vote(2, 2, true));
        changesNothing("vote(3, 0, false) of a passed one", club -> club.vote(3, 0, false));
        changesNothing("vote(3, 1, true) of a refused one", club -> club.vote(3, 1, true));
    }

    private static void limits() {
        changesNothing("the eleventh member", () -> Clubs.of(10, 1, 0), club -> club.join(1, 0));
        changesNothing("the twenty-first film", NothingChangedTest::clubOfTwentyFilms,
                club -> club.film(1));
        changesNothing("the thirty-first proposal", NothingChangedTest::clubOfThirtyProposals,
                club -> club.propose(0, 0, 0));
        changesNothing("the 301st fetch", NothingChangedTest::clubOf300Fetches,
                club -> club.fetch(0, 0));
        changesNothing("pass(2) to 2001", NothingChangedTest::clubOfHour1999, club -> club.pass(2));
    }

    private static Bandwidthclub clubOfTwentyFilms() {
        Bandwidthclub club = new Bandwidthclub();
        for (int f = 0; f < 20; f++) {
            club.film(1 + f);
        }
        return club;
    }

    private static Bandwidthclub clubOfThirtyProposals() {
        Bandwidthclub club = Clubs.of(1, 5, 5);
        for (int p = 0; p < 30; p++) {
            club.propose(0, p % 3, 1);
        }
        return club;
    }

    private static Bandwidthclub clubOf300Fetches() {
        Bandwidthclub club = Clubs.withFilms(Clubs.of(1, 5, 5), 5);
        for (int n = 0; n < 300; n++) {
            club.fetch(0, 0);
        }
        return club;
    }

    private static Bandwidthclub clubOfHour1999() {
        Bandwidthclub club = Clubs.withFilms(Clubs.of(2, 5, 5), 8);
        Clubs.passTo(club, 1999);
        club.fetch(0, 0);
        return club;
    }

    private static void changesNothing(String call, ClubCall run) {
        changesNothing(call, NothingChangedTest::usedClub, run);
    }

    private static void changesNothing(String call, Maker maker, ClubCall run) {
        Bandwidthclub club = maker.make();
        Check.is(call + " throws", isThrowing(club, run), true);
        Check.is("what is seen after " + call, Seen.all(club), Seen.all(maker.make()));
    }

    private static boolean isThrowing(Bandwidthclub club, ClubCall run) {
        try {
            run.run(club);
            return false;
        } catch (RuntimeException e) {
            return true;
        }
    }
}
