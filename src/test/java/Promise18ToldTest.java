/** Promise 18: told. */
public final class Promise18ToldTest {
    public static void main(String[] args) {
        Bandwidthclub club = new Bandwidthclub();
        Check.throwsIndex("told(-1)", () -> club.told(-1));
        Check.throwsIndex("told(least)", () -> club.told(Integer.MIN_VALUE));
        Check.is("told(0) of nobody", club.told(0), 0);
        for (int m = 0; m < 10; m++) {
            club.join(20, 40);
        }
        Check.is("told", Seen.told(club), "0;1;2;3;4;5;6;7;8;9;");
        Clubs.withFilms(club, 10, 9, 20, 1);
        for (int f = 3; f >= 0; f--) {
            club.fetch(9, f);
        }
        club.fetch(2, 2);
        club.leave(0);
        Check.is("told", Seen.told(club), "1;2,20;3;4;5;6;7;8;9,10,9,20,1;");
        Check.is("told(2)", club.told(2), '2');
        Check.is("told(3)", club.told(3), ',');
        Check.is("told(30)", club.told(30), ';');
        Check.is("told(31)", club.told(31), 0);
        Check.is("told(most)", club.told(Integer.MAX_VALUE), 0);
        club.leave(9);
        Check.is("told", Seen.told(club), "1;2,20;3;4;5;6;7;8;");
        Check.end();
    }
}
