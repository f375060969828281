/** Promise 5: fetch. */
public final class Promise05FetchTest {
    public static void main(String[] args) {
        whatCannotBeFetched();
        fromOwnCache();
        fromOtherCaches();
        holderWithTooLittleLeft();
        fromOutside();
        debtsMeetEachOther();
        pricesOfTheDay();
        intoTheCache();
        worthAheadOfNumber();
        tooLargeForTheCache();
        threeHundred();
        Check.end();
    }

    private static void whatCannotBeFetched() {
        Bandwidthclub club = Clubs.withFilms(Clubs.of(3, 4, 5), 9, 20);
        Check.throwsIndex("fetch(-1, 0)", () -> club.fetch(-1, 0));
        Check.throwsIndex("fetch(3, 0)", () -> club.fetch(3, 0));
        Check.throwsIndex("fetch(0, -1)", () -> club.fetch(0, -1));
        Check.throwsIndex("fetch(0, 2)", () -> club.fetch(0, 2));
        Check.throwsState("fetch(0, 1) of 20 by 12", () -> club.fetch(0, 1));
        club.leave(2);
        Check.throwsState("fetch(2, 0)", () -> club.fetch(2, 0));
        Check.throwsIndex("fetch(2, 2)", () -> club.fetch(2, 2));
        Check.throwsState("fetch(0, 0) of 9 by 8", () -> club.fetch(0, 0));
        club.join(1, 0);
        Check.is("fetch(0, 0) of 9 by 9", club.fetch(0, 0), 18);
        Check.is("the last unit of all", club.member(3, 1), 0);
        Check.is("owes(0, 3)", club.owes(0, 3), 1);
        Check.throwsState("fetch(0, 0) by nothing", () -> club.fetch(0, 0));
    }

    private static void fromOwnCache() {
        Bandwidthclub club = Clubs.withFilms(Clubs.of(2, 10, 10), 10);
        club.fetch(0, 0);
        Check.is("line of 0", club.member(0, 1), 0);
        Check.is("fetch(0, 0) from the own cache", club.fetch(0, 0), 0);
        Check.is("line of 1", club.member(1, 1), 10);
        Check.is("account of 0", club.member(0, 3), -20);
        Check.is("fetched by 0", club.member(0, 4), 2);
        Check.is("worth(0)", club.worth(0), 2);
    }

    private static void fromOtherCaches() {
        Bandwidthclub club = Clubs.withFilms(Clubs.of(4, 10, 10), 4, 7);
        club.fetch(1, 0);
        club.pass(1);
        Check.is("fetch(2, 0)", club.fetch(2, 0), 4);
        Check.is("line of 1", club.member(1, 1), 6);
        Check.is("line of 2", club.member(2, 1), 10);
        Check.is("account of 1", club.member(1, 3), -8 + 4);
        Check.is("account of 2", club.member(2, 3), -4);
        Check.is("has(2, 0)", club.has(2, 0), false);
        Check.is("owes(2, 1)", club.owes(2, 1), 0);
        Check.is("fetched by 1", club.member(1, 4), 1);

        club.fetch(0, 1);
        Check.is("line of 0", club.member(0, 1), 3);
        club.fetch(3, 0);
        Check.is("line of 1, again", club.member(1, 1), 2);
        Check.is("fetch(3, 0) from outside", club.fetch(3, 0), 8);
        Check.is("has(3, 0)", club.has(3, 0), true);
        club.pass(1);
        Check.is("fetch(0, 0)", club.fetch(0, 0), 4);
        Check.is("the lowest of 1 and 3", club.member(1, 1), 6);
        Check.is("fetch(0, 0)", club.fetch(0, 0), 4);
        Check.is("then 3 has more left", club.member(3, 1), 6);
        Check.is("and 1 as it was", club.member(1, 1), 6);
    }

    private static void holderWithTooLittleLeft() {
        Bandwidthclub club = Clubs.withFilms(Clubs.of(3, 5, 5), 5, 1);
        club.fetch(0, 0);
        club.pass(1);
        Check.is("fetch(0, 1)", club.fetch(0, 1), 2);
        Check.is("fetch(1, 0) from outside", club.fetch(1, 0), 10);
        Check.is("line of 0", club.member(0, 1), 4);
        Check.is("line of 1", club.member(1, 1), 0);
        club.pass(1);
        Check.is("fetch(2, 0) with just as much left", club.fetch(2, 0), 5);
        Check.is("line of 0", club.member(0, 1), 0);
    }

    private static void fromOutside() {
        Bandwidthclub club = new Bandwidthclub();
        club.join(3, 0);
        club.join(5, 0);
        club.join(6, 0);
        club.join(5, 0);
        Clubs.withFilms(club, 11, 9, 1);
        Check.is("fetch(0, 0)", club.fetch(0, 0), 22);
        Check.is("own line first", club.member(0, 1), 0);
        Check.is("then the one with most left", club.member(2, 1), 0);
        Check.is("then the lowest of several", club.member(1, 1), 3);
        Check.is("then nobody", club.member(3, 1), 5);
        Check.is("owes(0, 1)", club.owes(0, 1), 2);
        Check.is("owes(0, 2)", club.owes(0, 2), 6);
        Check.is("owes(0, 3)", club.owes(0, 3), 0);
        Check.is("account of 0", club.member(0, 3), -22);
        Check.is("nothing to those who lend", club.member(2, 3), 0);
        Check.throwsState("fetch(2, 1) of 9 by 8", () -> club.fetch(2, 1));
        club.fetch(3, 2);
        Check.is("own line alone", club.member(3, 1), 4);
        Check.is("has(0, 0) without room", club.has(0, 0), false);
    }

    private static void debtsMeetEachOther() {
        Bandwidthclub club = Clubs.withFilms(Clubs.of(2, 5, 0), 8, 10);
        club.fetch(0, 0);
        Check.is("owes(0, 1)", club.owes(0, 1), 3);
        club.pass(1);
        club.fetch(1, 1);
        Check.is("owes(0, 1)", club.owes(0, 1), 0);
        Check.is("owes(1, 0)", club.owes(1, 0), 2);
        club.pass(1);
        club.fetch(0, 0);
        Check.is("owes(0, 1)", club.owes(0, 1), 1);
        Check.is("owes(1, 0)", club.owes(1, 0), 0);
    }

    private static void pricesOfTheDay() {
        Bandwidthclub club = Clubs.withFilms(Clubs.of(1, 20, 0), 3);
        for (int hour = 1; hour <= 48; hour++) {
            club.pass(1);
            int ofDay = hour % 24;
            int price = ofDay >= 18 && ofDay <= 22 ? 4 : 2;
            Check.is("fetch(0, 0) in hour " + hour, club.fetch(0, 0), 3 * price);
        }
        Clubs.passRule(club, 0, 9);
        Clubs.passRule(club, 1, 0);
        Check.is("in this hour", club.fetch(0, 0), 6);
        club.pass(1);
        Check.is("in the next hour", club.fetch(0, 0), 0);
        Clubs.passTo(club, 66);
        Check.is("in the evening", club.fetch(0, 0), 27);
    }

    private static void intoTheCache() {
        Bandwidthclub club = Clubs.withFilms(Clubs.of(1, 20, 10), 3, 3, 4, 6, 7);
        for (int f = 0; f < 3; f++) {
            club.fetch(0, f);
        }
        Check.is("all that there is room for", Seen.told(club), "0,3,3,4;");
        club.pass(1);
        club.fetch(0, 3);
        Check.is("nothing is worth less", Seen.told(club), "0,3,3,4;");
        club.fetch(0, 0);
        club.fetch(0, 2);
        club.fetch(0, 3);
        Check.is("what is worth less is not enough", Seen.told(club), "0,3,3,4;");
        club.pass(1);
        club.fetch(0, 3);
        Check.is("least worth first, then the lowest", Seen.told(club), "0,4,6;");
        Check.is("used", club.member(0, 2), 10);
        club.fetch(0, 1);
        Check.is("what is worth as much stays", Seen.told(club), "0,4,6;");
        club.fetch(0, 1);
        Check.is("no more is taken out than must be", Seen.told(club), "0,3,6;");
    }

    private static void worthAheadOfNumber() {
        Bandwidthclub club = Clubs.withFilms(Clubs.of(1, 20, 10), 3, 4, 2, 5);
        for (int f = 0; f < 3; f++) {
            club.fetch(0, f);
        }
        club.fetch(0, 0);
        club.fetch(0, 0);
        club.fetch(0, 1);
        club.pass(1);
        club.fetch(0, 3);
        club.pass(1);
        club.fetch(0, 3);
        Check.is("a film of 5 worth 2, where only 2 units are worth less", Seen.told(club), "0,3,4,2;");
        club.pass(1);
        club.fetch(0, 3);
        Check.is("worth 3: those worth 1 and 2 go, the lowest stays", Seen.told(club), "0,3,5;");
    }

    private static void tooLargeForTheCache() {
        Bandwidthclub club = Clubs.withFilms(Clubs.of(1, 20, 5), 6, 5);
        Check.is("fetch(0, 1)", club.fetch(0, 1), 10);
        Check.is("as large as the cache", club.has(0, 1), true);
        club.fetch(0, 0);
        club.fetch(0, 0);
        Check.is("larger than the cache", club.has(0, 0), false);
        Check.is("nothing is taken out", club.has(0, 1), true);
    }

    private static void threeHundred() {
        Bandwidthclub club = Clubs.withFilms(Clubs.of(2, 5, 5), 5, 20);
        Check.throwsState("one that cannot be fetched, and is not counted", () -> club.fetch(1, 1));
        for (int n = 0; n < 299; n++) {
            club.fetch(0, 0);
        }
        Check.is("the 300th, of another member", club.fetch(1, 0), 10);
        Check.throwsState("the 301st", () -> club.fetch(0, 0));
        Check.throwsIndex("the 301st, of no film", () -> club.fetch(0, 2));
        Check.is("worth(0)", club.worth(0), 300);
        Check.is("fetched by 0", club.member(0, 4), 299);
        Check.is("account of 0", club.accountAnew(0), -10);
    }
}
