/** Promises 28 and 29: keep, again. */
public final class SlotsTest {
    private static final String LAW = "L030100D002D102M001M000M-00M-40P01";

    public static void main(String[] args) {
        keep();
        again();
        againOfAllThatIsKept();
        againTwice();
        nobodyIsKept();
        Due.end();
    }

    private static void keep() {
        HoundLicence x = Due.under(LAW);
        Due.hours(x, 2);
        String before = State.all(x);
        Due.is("keep(0)", x.keep(0), 2);
        Due.is("keep(1)", x.keep(1), 2);
        Due.same("keep changes nothing", State.all(x), before);
        Due.is("ACTS stay", x.about(8), 2);
        Due.is("undo()", x.undo(), 1);
        Due.is("keep(0) over what was kept", x.keep(0), 1);
        Due.is("again(1)", x.again(1), 2);
        Due.is("again(0)", x.again(0), 1);
    }

    private static void again() {
        HoundLicence x = Due.under(LAW);
        Due.is("keep(1)", x.keep(1), 0);
        Due.hours(x, 3);
        Due.is("again(1)", x.again(1), 0);
        Due.is("THE HOUR", x.about(3), 0);
        Due.is("ACTS", x.about(8), 0);
        x.lead(0, 1);
        Due.is("undo() of an ACT behind it", x.undo(), 0);
    }

    private static void againOfAllThatIsKept() {
        HoundLicence x = Due.under(LAW);
        x.leash(1);
        Due.is("hour()", x.hour(), 5);
        Due.is("lead(1, 1)", x.lead(1, 1), 2);
        x.keep(0);
        x.hour();
        x.give(3, 1);
        x.lead(1, 1);
        x.lead(0, 2);
        x.leash(1);
        x.give(1, 1);
        x.see(0, 4, 4);
        x.seed(12);
        Due.is("wipe()", x.wipe(), 34);
        Due.is("again(0)", x.again(0), 1);
        HoundLicence y = Due.under(LAW);
        y.leash(1);
        y.hour();
        y.lead(1, 1);
        y.keep(0);
        y.again(0);
        y.see(0, 4, 4);
        y.seed(12);
        y.wipe();
        Due.same("as it was kept", State.all(x), State.all(y));
        Due.is("man(1, 3)", x.man(1, 3), 1);
        Due.is("man(0, 4)", x.man(0, 4), 3);
        Due.is("BONES", x.about(7), 2);
        Due.is("dog(1, 0)", x.dog(1, 0), 2);
        Due.is("SEEN", x.about(9), 1);
        Due.is("bytes", x.about(10), 0);
    }

    private static void againTwice() {
        HoundLicence x = Due.under(LAW);
        x.hour();
        x.keep(0);
        x.hour();
        x.keep(1);
        x.hour();
        Due.is("again(0)", x.again(0), 1);
        String first = State.all(x);
        x.lead(0, 1);
        x.hour();
        Due.is("again(1)", x.again(1), 2);
        Due.is("again(0) once more", x.again(0), 1);
        Due.same("as it was kept still", State.all(x), first);
    }

    private static void nobodyIsKept() {
        HoundLicence x = new HoundLicence();
        x.hour();
        Due.is("keep(0) of nobody", x.keep(0), 1);
        x.hour();
        Due.is("again(0) of nobody", x.again(0), 1);
        Due.is("about(8)", x.about(8), 0);
    }
}
