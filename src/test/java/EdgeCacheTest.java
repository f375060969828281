/** "Fetching", on what is put into caches: each sentence that names an edge, by itself. */
public final class EdgeCacheTest {
    public static void main(String[] args) {
        worthOneMoreFirst();
        whatCameFromOutside();
        ifThereIsRoom();
        thatAreWorthLess();
        worthByAllMembers();
        worthLeastFirst();
        theLowestOfSeveral();
        asManyAsItTakes();
        noMoreThanItTakes();
        otherwiseNothing();
        largerThanTheCache();
        Check.end();
    }

    /** A club of one member, whose line fetches 20 units in an hour. */
    private static Bandwidthclub oneOfRoom(int room, int... sizes) {
        return Clubs.withFilms(Clubs.of(1, 20, room), sizes);
    }

    private static void fetchInTurn(Bandwidthclub club, int... films) {
        for (int film : films) {
            club.fetch(0, film);
            club.pass(1);
        }
    }

    private static void has(String when, Bandwidthclub club, String due) {
        StringBuilder text = new StringBuilder();
        for (int f = 0; f < Seen.films(club); f++) {
            text.append(club.has(0, f) ? '+' : '-');
        }
        Check.is(when, text.toString(), due);
    }

    private static void worthOneMoreFirst() {
        Check.sentence("then the film is worth 1 more; what came from outside is put");
        Bandwidthclub club = oneOfRoom(5, 5, 5);
        fetchInTurn(club, 0, 1);
        has("worth 1 against 1", club, "+-");
        fetchInTurn(club, 1);
        has("worth 2, with this fetch, against 1", club, "-+");
    }

    private static void whatCameFromOutside() {
        Check.sentence("what came from outside is put into the member's cache");
        Bandwidthclub club = Clubs.withFilms(Clubs.of(2, 20, 50), 5);
        club.fetch(1, 0);
        Check.is("has(1, 0) from outside", club.has(1, 0), true);
        Check.is("has(0, 0) of the other one", club.has(0, 0), false);
        club.pass(1);
        club.fetch(0, 0);
        Check.is("has(0, 0) from another's cache", club.has(0, 0), false);
        Check.is("has(1, 0) then", club.has(1, 0), true);
    }

    private static void ifThereIsRoom() {
        Check.sentence("if there is room");
        Bandwidthclub club = oneOfRoom(10, 6, 5, 4, 1);
        fetchInTurn(club, 0);
        has("6 of 10", club, "+---");
        fetchInTurn(club, 1);
        has("5 into 4 units of room", club, "+---");
        fetchInTurn(club, 2);
        has("4 into 4 units of room", club, "+-+-");
        fetchInTurn(club, 3);
        has("1 into a full cache", club, "+-+-");
        Check.is("used", club.member(0, 2), 10);
    }

    private static void thatAreWorthLess() {
        Check.sentence("with films taken out that are worth less than it");
        Bandwidthclub club = oneOfRoom(10, 10, 10);
        fetchInTurn(club, 0, 0, 0, 1, 1);
        has("worth 2 against 3", club, "+-");
        fetchInTurn(club, 1);
        has("worth 3 against 3", club, "+-");
        fetchInTurn(club, 1);
        has("worth 4 against 3", club, "-+");
    }

    private static void worthByAllMembers() {
        Check.sentence("nearer for all as soon as one has fetched them");
        Bandwidthclub club = Clubs.withFilms(new Bandwidthclub(), 5, 5);
        club.join(20, 5);
        club.join(20, 0);
        fetchInTurn(club, 0);
        club.fetch(1, 1);
        fetchInTurn(club, 1);
        has("worth 2 by two members against 1", club, "-+");
        Check.is("fetch(1, 1) from 0", club.fetch(1, 1), 5);
    }

    private static void worthLeastFirst() {
        Check.sentence("those worth least first");
        Bandwidthclub club = oneOfRoom(15, 5, 5, 5, 5);
        fetchInTurn(club, 0, 0, 0, 1, 2, 2, 3, 3, 3);
        has("worth 1 goes, ahead of 2 and 3", club, "+-++");
    }

    private static void theLowestOfSeveral() {
        Check.sentence("worth least first, of several the lowest");
        Bandwidthclub club = oneOfRoom(15, 5, 5, 5, 5);
        fetchInTurn(club, 2, 1, 0, 0, 3, 3);
        has("1 and 2 are worth 1", club, "+-++");
    }

    private static void asManyAsItTakes() {
        Check.sentence("those worth least first, until there is room");
        Bandwidthclub club = oneOfRoom(7, 1, 6, 5);
        fetchInTurn(club, 0, 1, 2, 2);
        has("1 unit goes first, then 6", club, "--+");
        club = oneOfRoom(10, 2, 3, 5, 10);
        fetchInTurn(club, 0, 1, 2, 3, 3);
        has("all of it goes", club, "---+");
    }

    private static void noMoreThanItTakes() {
        Check.sentence("if there is with films taken out");
        Bandwidthclub club = oneOfRoom(6, 2, 2, 2, 2, 3);
        fetchInTurn(club, 0, 1, 2, 3, 3);
        has("2 units for 2", club, "-+++-");
        fetchInTurn(club, 4, 4);
        has("4 units for 3", club, "---++");
        Check.is("used", club.member(0, 2), 5);
        fetchInTurn(club, 1, 1);
        has("2 into 1 unit of room, worth 3 against 2 and 2", club, "-+--+");
    }

    private static void otherwiseNothing() {
        Check.sentence("otherwise nothing is taken out, and it is not put in");
        Bandwidthclub club = oneOfRoom(10, 4, 6, 5);
        fetchInTurn(club, 0, 1, 1, 2, 2);
        has("4 units are worth less, 5 are needed", club, "++-");
        Check.is("used", club.member(0, 2), 10);
        fetchInTurn(club, 2);
        has("10 units are worth less", club, "--+");
        club = oneOfRoom(10, 4, 6, 4);
        fetchInTurn(club, 0, 1, 1, 2, 2);
        has("4 units are worth less, 4 are needed", club, "-++");
    }

    private static void largerThanTheCache() {
        Check.sentence("otherwise nothing is taken out (a film larger than the cache)");
        Bandwidthclub club = oneOfRoom(5, 5, 6);
        fetchInTurn(club, 0, 1, 1, 1);
        has("6 units into 5", club, "+-");
        club = oneOfRoom(0, 1);
        fetchInTurn(club, 0, 0);
        has("1 unit into 0", club, "-");
        club = oneOfRoom(1, 1);
        fetchInTurn(club, 0);
        has("1 unit into 1", club, "+");
    }
}
