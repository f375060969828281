/** A call that throws changes nothing: a club that had such a call looks like one that had none. */
public final class NothingChangedTest {
    private interface Maker {
        Bandwidthclub make();
    }

    private interface ClubCall {
        void run(Bandwidthclub club);
    }

    public static void main(String[] args) {
        rangesOfWhatIsMade();
        fetching();
        voting();
        asking();
        limits();
        askingAloneChangesNothing();
        Check.end();
    }

    /** Four members, of whom 2 left; films 0 to 2; debts, caches and proposals of each kind. */
    private static Bandwidthclub usedClub() {
        Bandwidthclub club = Clubs.withFilms(Clubs.of(4, 6, 9), 8, 4, 20);
        Clubs.passTo(club, 20);
        club.fetch(0, 0);
        club.fetch(1, 1);
        club.fetch(3, 1);
        Clubs.passRule(club, 0, 8);
        int refused = club.propose(1, 1, 1);
        club.vote(0, refused, false);
        club.vote(1, refused, false);
        club.vote(3, club.propose(3, 2, 5), true);
        club.leave(2);
        return club;
    }

    private static void rangesOfWhatIsMade() {
        changesNothing("join(0, 5)", club -> club.join(0, 5));
        changesNothing("join(21, 5)", club -> club.join(21, 5));
        changesNothing("join(5, -1)", club -> club.join(5, -1));
        changesNothing("join(5, 51)", club -> club.join(5, 51));
        changesNothing("film(0)", club -> club.film(0));
        changesNothing("film(21)", club -> club.film(21));
        changesNothing("pass(0)", club -> club.pass(0));
        changesNothing("pass(101)", club -> club.pass(101));
        changesNothing("leave(-1)", club -> club.leave(-1));
        changesNothing("leave(4)", club -> club.leave(4));
        changesNothing("leave(2)", club -> club.leave(2));
    }

    private static void fetching() {
        changesNothing("fetch(4, 0)", club -> club.fetch(4, 0));
        changesNothing("fetch(0, 3)", club -> club.fetch(0, 3));
        changesNothing("fetch(2, 0)", club -> club.fetch(2, 0));
        changesNothing("fetch(0, 2), which is too large", club -> club.fetch(0, 2));
        changesNothing("fetch(1, 0), where too little is left", club -> club.fetch(1, 0));
    }

    private static void voting() {
        changesNothing("propose(0, 3, 0)", club -> club.propose(0, 3, 0));
        changesNothing("propose(0, 0, 10)", club -> club.propose(0, 0, 10));
        changesNothing("propose(2, 0, 0)", club -> club.propose(2, 0, 0));
        changesNothing("vote(0, 3, true)", club -> club.vote(0, 3, true));
        changesNothing("vote(2, 2, true)", club -> club.vote(2, 2, true));
        changesNothing("vote(3, 0, false) of a passed one", club -> club.vote(3, 0, false));
        changesNothing("vote(3, 1, true) of a refused one", club -> club.vote(3, 1, true));
    }

    private static void asking() {
        changesNothing("rule(3)", club -> club.rule(3));
        changesNothing("proposal(3, 0)", club -> club.proposal(3, 0));
        changesNothing("proposal(0, 5)", club -> club.proposal(0, 5));
        changesNothing("member(4, 0)", club -> club.member(4, 0));
        changesNothing("member(0, 5)", club -> club.member(0, 5));
        changesNothing("has(0, 3)", club -> club.has(0, 3));
        changesNothing("owes(0, 4)", club -> club.owes(0, 4));
        changesNothing("worth(3)", club -> club.worth(3));
        changesNothing("accountAnew(4)", club -> club.accountAnew(4));
        changesNothing("owesAnew(4, 0)", club -> club.owesAnew(4, 0));
        changesNothing("told(-1)", club -> club.told(-1));
    }

    private static void askingAloneChangesNothing() {
        Bandwidthclub club = usedClub();
        String seen = Seen.all(club);
        Check.is("what is seen the second time", Seen.all(club), seen);
    }

    private static void limits() {
        changesNothing("the eleventh member", () -> Clubs.of(10, 1, 0), club -> club.join(1, 0));
        changesNothing("the twenty-first film", NothingChangedTest::clubOfTwentyFilms,
                club -> club.film(1));
        changesNothing("the thirty-first proposal", NothingChangedTest::clubOfThirtyProposals,
                club -> club.propose(0, 0, 0));
        changesNothing("the 301st fetch", NothingChangedTest::clubOf300Fetches,
                club -> club.fetch(0, 0));
        changesNothing("pass(2) to 2001", NothingChangedTest::clubOfHour1999, club -> club.pass(2));
    }

    private static Bandwidthclub clubOfTwentyFilms() {
        Bandwidthclub club = new Bandwidthclub();
        for (int f = 0; f < 20; f++) {
            club.film(1 + f);
        }
        return club;
    }

    private static Bandwidthclub clubOfThirtyProposals() {
        Bandwidthclub club = Clubs.of(1, 5, 5);
        for (int p = 0; p < 30; p++) {
            club.propose(0, p % 3, 1);
        }
        return club;
    }

    private static Bandwidthclub clubOf300Fetches() {
        Bandwidthclub club = Clubs.withFilms(Clubs.of(1, 5, 5), 5);
        for (int n = 0; n < 300; n++) {
            club.fetch(0, 0);
        }
        return club;
    }

    private static Bandwidthclub clubOfHour1999() {
        Bandwidthclub club = Clubs.withFilms(Clubs.of(2, 5, 5), 8);
        Clubs.passTo(club, 1999);
        club.fetch(0, 0);
        return club;
    }

    private static void changesNothing(String call, ClubCall run) {
        changesNothing(call, NothingChangedTest::usedClub, run);
    }

    private static void changesNothing(String call, Maker maker, ClubCall run) {
        Bandwidthclub club = maker.make();
        Check.is(call + " throws", isThrowing(club, run), true);
        Check.is("what is seen after " + call, Seen.all(club), Seen.all(maker.make()));
    }

    private static boolean isThrowing(Bandwidthclub club, ClubCall run) {
        try {
            run.run(club);
            return false;
        } catch (RuntimeException e) {
            return true;
        }
    }
}
