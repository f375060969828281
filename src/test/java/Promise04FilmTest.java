/** Promise 4: film. */
public final class Promise04FilmTest {
    public static void main(String[] args) {
        Bandwidthclub club = new Bandwidthclub();
        Check.throwsArgument("film(0)", () -> club.film(0));
        Check.throwsArgument("film(21)", () -> club.film(21));
        Check.throwsArgument("film(least)", () -> club.film(Integer.MIN_VALUE));
        Check.throwsArgument("film(most)", () -> club.film(Integer.MAX_VALUE));
        Check.is("film(1)", club.film(1), 0);
        Check.is("film(20)", club.film(20), 1);
        for (int f = 2; f < 20; f++) {
            Check.is("film(5)", club.film(5), f);
        }
        Check.throwsState("the twenty-first", () -> club.film(5));
        Check.throwsArgument("the twenty-first out of range", () -> club.film(0));
        club.join(20, 0);
        Check.is("fetch(0, 0) of 1 unit", club.fetch(0, 0), 2);
        club.pass(1);
        Check.is("fetch(0, 1) of 20 units", club.fetch(0, 1), 40);
        Check.is("worth(19)", club.worth(19), 0);
        Check.end();
    }
}
