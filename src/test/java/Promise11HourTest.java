/** Promise 11: hour. */
public final class Promise11HourTest {
    public static void main(String[] args) {
        Bandwidthclub club = new Bandwidthclub();
        Check.is("hour()", club.hour(), 0);
        club.pass(7);
        Check.is("hour()", club.hour(), 7);
        club.pass(100);
        Check.is("hour()", club.hour(), 107);
        club.join(1, 0);
        club.film(1);
        club.fetch(0, 0);
        Check.is("hour() after other calls", club.hour(), 107);
        Check.throwsArgument("pass(0)", () -> club.pass(0));
        Check.is("hour() after an exception", club.hour(), 107);
        Check.end();
    }
}
