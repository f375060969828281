/** "Fetching", on lines, prices and debts: each sentence that names an edge, by itself. */
public final class EdgeFetchTest {
    public static void main(String[] args) {
        membersInTheClub();
        ownCache();
        othersInTheClub();
        whoHasMostLeft();
        lowestOfSeveralHolders();
        asMuchAsTheSize();
        holdersAreNotAddedUp();
        holderLendsAsAnyOther();
        lineOfTheHolderAlone();
        rebateToThatOne();
        ownLineAsFarAsItIsLeft();
        lenderWithMostLeft();
        lowestOfSeveralLenders();
        andSoOn();
        allLinesTogether();
        holderAndAllLines();
        linesOfThoseWhoLeft();
        priceOfThisHour();
        priceToNobody();
        owesMore();
        owesFewer();
        threeHundred();
        Check.end();
    }

    private static void membersInTheClub() {
        Check.sentence("a member in the club fetches a film");
        Bandwidthclub club = Clubs.withFilms(Clubs.of(2, 5, 5), 5);
        club.fetch(0, 0);
        club.leave(0);
        club.pass(1);
        Check.throwsState("fetch(0, 0) of one that left", () -> club.fetch(0, 0));
        Check.is("fetch(1, 0)", club.fetch(1, 0), 10);
    }

    private static void ownCache() {
        Check.sentence("in its own cache, it costs nothing, and nobody's line is used");
        Bandwidthclub club = Clubs.withFilms(Clubs.of(2, 5, 5), 5, 10);
        club.fetch(0, 0);
        club.pass(1);
        Check.is("fetch(0, 0)", club.fetch(0, 0), 0);
        Check.lines(club, 5, 5);
        club.fetch(1, 1);
        Check.is("fetch(0, 0) with all lines used up", club.fetch(0, 0), 0);
        Check.lines(club, 0, 0);
        Check.is("account of 0", club.member(0, 3), -10);
        Check.is("owes(0, 1)", club.owes(0, 1), 0);
    }

    private static void othersInTheClub() {
        Check.sentence("if others in the club have it in their caches");
        Bandwidthclub club = Clubs.withFilms(Clubs.of(3, 5, 5), 5);
        club.fetch(0, 0);
        club.pass(1);
        Check.is("fetch(1, 0) from 0", club.fetch(1, 0), 5);
        club.leave(0);
        Check.is("fetch(1, 0) with 0 gone", club.fetch(1, 0), 10);
        Check.is("account of 0", club.member(0, 3), -10 + 5);
    }

    private static void whoHasMostLeft() {
        Check.sentence("it comes from the one of these who has most left");
        Bandwidthclub club = twoHolders();
        club.fetch(1, 3);
        Check.lines(club, 6, 5, 6, 6);
        Check.is("fetch(0, 0) from 2", club.fetch(0, 0), 4);
        Check.lines(club, 6, 5, 2, 6);
        Check.is("fetch(3, 0) from 1", club.fetch(3, 0), 4);
        Check.lines(club, 6, 1, 2, 6);
        Check.accounts(club, -4, -8 - 2 + 4, -8 + 4, -4);
    }

    private static void lowestOfSeveralHolders() {
        Check.sentence("who has most left, the lowest of several");
        Bandwidthclub club = twoHolders();
        club.fetch(0, 0);
        Check.lines(club, 6, 2, 6, 6);
        club.pass(1);
        club.fetch(3, 0);
        Check.lines(club, 6, 2, 6, 6);
    }

    private static void asMuchAsTheSize() {
        Check.sentence("if that is as much as the size");
        Bandwidthclub club = Clubs.withFilms(Clubs.of(3, 5, 5), 5, 1);
        club.fetch(0, 0);
        club.pass(1);
        Check.is("fetch(1, 0) from 0 with 5 left", club.fetch(1, 0), 5);
        Check.lines(club, 0, 5, 5);
        club.pass(1);
        club.fetch(0, 1);
        Check.is("fetch(1, 0) from outside, 0 with 4 left", club.fetch(1, 0), 10);
        Check.lines(club, 4, 0, 5);
        Bandwidthclub small = Clubs.withFilms(Clubs.of(2, 1, 1), 1);
        small.fetch(0, 0);
        small.pass(1);
        Check.is("fetch(1, 0) of 1 unit from 0 with 1 left", small.fetch(1, 0), 1);
        Check.lines(small, 0, 1);
        Check.is("fetch(1, 0) from outside, 0 with nothing left", small.fetch(1, 0), 2);
    }

    private static void holdersAreNotAddedUp() {
        Check.sentence("from the one of these, if that is as much as the size");
        Bandwidthclub club = twoHolders();
        club.fetch(1, 1);
        club.fetch(2, 2);
        Check.is("fetch(0, 0) from outside, 1 and 2 with 3 left", club.fetch(0, 0), 8);
        Check.lines(club, 2, 3, 3, 6);
    }

    private static void holderLendsAsAnyOther() {
        Check.sentence("otherwise it comes from outside, also over the line of one who has it");
        Bandwidthclub club = Clubs.withFilms(Clubs.of(2, 5, 5), 5, 1, 2);
        club.fetch(0, 0);
        club.pass(1);
        club.fetch(0, 1);
        club.fetch(1, 2);
        Check.lines(club, 4, 3);
        Check.is("fetch(1, 0) of 5 by 3 and 2 of 0", club.fetch(1, 0), 10);
        Check.lines(club, 2, 0);
        Check.owes(club, 1, 0, 2);
        Check.is("has(1, 0)", club.has(1, 0), true);
    }

    private static void lineOfTheHolderAlone() {
        Check.sentence("that one's line is used for all of it");
        Bandwidthclub club = Clubs.withFilms(Clubs.of(3, 5, 5), 5, 5);
        club.fetch(0, 0);
        club.pass(1);
        club.fetch(1, 1);
        Check.lines(club, 5, 0, 5);
        Check.is("fetch(1, 0) with the own line used up", club.fetch(1, 0), 5);
        Check.lines(club, 0, 0, 5);
        Check.is("owes(1, 0)", club.owes(1, 0), 0);
        club.pass(1);
        club.fetch(2, 0);
        Check.lines(club, 0, 5, 5);
    }

    private static void rebateToThatOne() {
        Check.sentence("the member pays the rebate for each unit to that one");
        Bandwidthclub club = Clubs.withFilms(Clubs.of(3, 5, 5), 5);
        club.fetch(0, 0);
        Clubs.passRule(club, 2, 0);
        club.pass(1);
        Check.is("fetch(1, 0) with a rebate of 0", club.fetch(1, 0), 0);
        Check.accounts(club, -10, 0, 0);
        Clubs.passRule(club, 2, 9);
        Clubs.passTo(club, 18);
        Check.is("fetch(1, 0) with a rebate of 9", club.fetch(1, 0), 45);
        Check.accounts(club, -10 + 45, -45, 0);
    }

    private static void ownLineAsFarAsItIsLeft() {
        Check.sentence("over the own line, as far as it is left in this hour");
        Bandwidthclub club = Clubs.withLines(5, 20);
        Clubs.withFilms(club, 4, 5, 6);
        club.fetch(0, 0);
        Check.lines(club, 1, 20);
        club.pass(1);
        club.fetch(0, 1);
        Check.lines(club, 0, 20);
        Check.is("owes(0, 1) for nothing", club.owes(0, 1), 0);
        club.pass(1);
        club.fetch(0, 2);
        Check.lines(club, 0, 19);
        Check.is("owes(0, 1) for a unit", club.owes(0, 1), 1);
        club.fetch(0, 0);
        Check.lines(club, 0, 15);
        Check.is("owes(0, 1) for a whole film more", club.owes(0, 1), 5);
    }

    private static void lenderWithMostLeft() {
        Check.sentence("then over the line of the other one who has most left");
        Bandwidthclub club = Clubs.withLines(1, 4, 6, 5);
        Clubs.withFilms(club, 3);
        club.fetch(0, 0);
        Check.lines(club, 0, 4, 4, 5);
        club.fetch(0, 0);
        Check.lines(club, 0, 4, 4, 2);
        Check.is("owes(0, 1)", club.owes(0, 1), 0);
        Check.is("owes(0, 2)", club.owes(0, 2), 2);
        Check.is("owes(0, 3)", club.owes(0, 3), 3);
    }

    private static void lowestOfSeveralLenders() {
        Check.sentence("the other one who has most left, the lowest of several");
        Bandwidthclub club = Clubs.withLines(5, 5, 5, 5);
        Clubs.withFilms(club, 7);
        club.fetch(2, 0);
        Check.lines(club, 3, 5, 0, 5);
        Check.is("owes(2, 0)", club.owes(2, 0), 2);
        club.pass(1);
        club.fetch(0, 0);
        Check.lines(club, 0, 3, 5, 5);
    }

    private static void andSoOn() {
        Check.sentence("as far as it is left, and so on");
        Bandwidthclub club = Clubs.withLines(3, 5, 6, 5);
        Clubs.withFilms(club, 11);
        club.fetch(0, 0);
        Check.lines(club, 0, 3, 0, 5);
        Bandwidthclub ten = Clubs.withFilms(Clubs.of(10, 2, 0), 20);
        Check.is("20 units over ten lines of 2", ten.fetch(4, 0), 40);
        Check.lines(ten, 0, 0, 0, 0, 0, 0, 0, 0, 0, 0);
        for (int m = 0; m < 10; m++) {
            Check.owes(ten, 4, m, m == 4 ? 0 : 2);
        }
        Bandwidthclub thin = Clubs.withLines(1, 1, 1);
        Clubs.withFilms(thin, 3);
        Check.is("3 units over three lines of 1", thin.fetch(2, 0), 6);
        Check.lines(thin, 0, 0, 0);
    }

    private static void allLinesTogether() {
        Check.sentence("it cannot be fetched, if all lines together have not so much left");
        Bandwidthclub club = Clubs.withLines(3, 4, 2);
        Clubs.withFilms(club, 10, 9, 1);
        Check.throwsState("fetch(0, 0) of 10 by 9", () -> club.fetch(0, 0));
        Check.lines(club, 3, 4, 2);
        Check.is("fetch(0, 1) of 9 by 9", club.fetch(0, 1), 18);
        Check.lines(club, 0, 0, 0);
        Check.throwsState("fetch(0, 2) of 1 by 0", () -> club.fetch(0, 2));
        Check.throwsState("fetch(2, 2) of 1 by 0", () -> club.fetch(2, 2));
        club.pass(1);
        Check.is("fetch(2, 1) in the next hour", club.fetch(2, 1), 18);
    }

    private static void holderAndAllLines() {
        Check.sentence("it cannot be fetched (though another one has it in its cache)");
        Bandwidthclub club = Clubs.withFilms(Clubs.of(2, 5, 5), 5, 1);
        club.fetch(0, 0);
        Check.throwsState("fetch(1, 0) of 5 by 5, 1 of it used", () -> {
            club.fetch(1, 1);
            club.fetch(1, 0);
        });
        Check.lines(club, 0, 4);
        club.pass(1);
        Check.is("fetch(1, 0) in the next hour", club.fetch(1, 0), 5);
    }

    private static void linesOfThoseWhoLeft() {
        Check.sentence("over the line of the other one in the club");
        Bandwidthclub club = Clubs.withLines(3, 20, 2);
        Clubs.withFilms(club, 6, 5);
        club.leave(1);
        Check.throwsState("fetch(0, 0) of 6 by 5", () -> club.fetch(0, 0));
        club.pass(1);
        Check.throwsState("fetch(0, 0) of 6 by 5, an hour later", () -> club.fetch(0, 0));
        Check.is("fetch(0, 1) of 5 by 5", club.fetch(0, 1), 10);
        Check.is("owes(0, 1)", club.owes(0, 1), 0);
        Check.is("owes(0, 2)", club.owes(0, 2), 2);
    }

    private static void priceOfThisHour() {
        Check.sentence("the member pays the price of this hour for each unit");
        Bandwidthclub club = Clubs.withFilms(Clubs.of(2, 5, 0), 10);
        Clubs.passRule(club, 0, 0);
        Clubs.passRule(club, 1, 9);
        Check.is("fetch(0, 0) at the first price", club.fetch(0, 0), 20);
        Clubs.passTo(club, 17);
        Check.is("fetch(0, 0) in the hour 17", club.fetch(0, 0), 90);
        club.pass(1);
        Check.is("fetch(0, 0) in the hour 18", club.fetch(0, 0), 0);
        Check.is("owes(0, 1), for nothing as well", club.owes(0, 1), 15);
        club.pass(4);
        Check.is("fetch(0, 0) in the hour 22", club.fetch(0, 0), 0);
        club.pass(1);
        Check.is("fetch(0, 0) in the hour 23", club.fetch(0, 0), 90);
    }

    private static void priceToNobody() {
        Check.sentence("the price of this hour for each unit; to nobody");
        Bandwidthclub club = Clubs.withFilms(Clubs.of(3, 5, 5), 15);
        club.fetch(0, 0);
        Check.accounts(club, -30, 0, 0);
    }

    private static void owesMore() {
        Check.sentence("for each unit over the line of another one it owes that one a unit more");
        Bandwidthclub club = Clubs.withLines(2, 5, 4);
        Clubs.withFilms(club, 8);
        club.fetch(0, 0);
        Check.owes(club, 0, 1, 5);
        Check.owes(club, 0, 2, 1);
        Check.owes(club, 1, 2, 0);
        club.pass(1);
        club.fetch(0, 0);
        Check.owes(club, 0, 1, 10);
        Check.owes(club, 0, 2, 2);
    }

    private static void owesFewer() {
        Check.sentence("as far as that one owes it some, that one owes it fewer");
        Bandwidthclub club = Clubs.withFilms(Clubs.of(2, 5, 0), 8, 7, 6);
        club.fetch(0, 0);
        Check.owes(club, 0, 1, 3);
        club.pass(1);
        club.fetch(1, 1);
        Check.owes(club, 0, 1, 1);
        club.pass(1);
        club.fetch(1, 2);
        Check.owes(club, 0, 1, 0);
        club.pass(1);
        club.fetch(1, 2);
        Check.owes(club, 1, 0, 1);
        club.pass(1);
        club.fetch(0, 0);
        Check.owes(club, 0, 1, 2);
    }

    private static void threeHundred() {
        Check.sentence("or 300 were");
        Bandwidthclub club = Clubs.withFilms(Clubs.of(2, 5, 5), 5, 20);
        for (int n = 0; n < 50; n++) {
            Check.throwsState("what is not fetched does not count", () -> club.fetch(0, 1));
        }
        club.fetch(1, 0);
        for (int n = 1; n < 299; n++) {
            club.fetch(1, 0);
        }
        Check.is("the 300th", club.fetch(1, 0), 0);
        Check.throwsState("the 301st", () -> club.fetch(1, 0));
        club.pass(1);
        Check.throwsState("the 301st, of another one", () -> club.fetch(0, 0));
        Check.is("fetched by 1", club.member(1, 4), 300);
    }

    /** Members 1 and 2 of four have film 0 of 4 units; other films of 3, 3, 1; lines of 6. */
    private static Bandwidthclub twoHolders() {
        Bandwidthclub club = Clubs.withFilms(Clubs.of(4, 6, 4), 4, 3, 3, 1);
        club.fetch(1, 0);
        club.fetch(2, 0);
        club.pass(1);
        Check.is("has(1, 0)", club.has(1, 0), true);
        Check.is("has(2, 0)", club.has(2, 0), true);
        return club;
    }
}
