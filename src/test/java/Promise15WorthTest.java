/** Promise 15: worth. */
public final class Promise15WorthTest {
    public static void main(String[] args) {
        Bandwidthclub club = Clubs.withFilms(Clubs.of(2, 6, 10), 6, 12);
        Check.throwsIndex("worth(-1)", () -> club.worth(-1));
        Check.throwsIndex("worth(2)", () -> club.worth(2));
        Check.is("worth(0)", club.worth(0), 0);
        club.fetch(0, 0);
        Check.is("from outside", club.worth(0), 1);
        club.fetch(0, 0);
        Check.is("from the own cache", club.worth(0), 2);
        Check.throwsState("fetch(1, 1)", () -> club.fetch(1, 1));
        Check.is("what could not be fetched", club.worth(1), 0);
        club.pass(1);
        club.fetch(1, 0);
        Check.is("from another cache", club.worth(0), 3);
        club.leave(0);
        Check.is("with that cache gone", club.worth(0), 3);
        Check.is("the other film", club.worth(1), 0);
        Check.end();
    }
}
