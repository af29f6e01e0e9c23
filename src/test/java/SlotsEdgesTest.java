import java.util.function.Supplier;

/** The edges that promises 28 and 29 name, each with a test of its own. */
public final class SlotsEdgesTest {
    private static final String LAW = "L000000D003D003M001M000M-10";

    public static void main(String[] args) {
        keep();
        again();
        Due.end();
    }

    private static void keep() {
        Due.edge("28: UNKNOWN", SlotsEdgesTest::keepUnknown);
        Due.edge("28, SLOTS 0 .. 1: each is one of its own", SlotsEdgesTest::keepBoth);
        Due.edge("28: THE HOUR", SlotsEdgesTest::keepHour);
        Due.edge("28: They are kept: over what was kept", SlotsEdgesTest::keepOver);
        Due.edge("28: They are kept: nobody", SlotsEdgesTest::keepNobody);
        Due.edge("28: nothing else is changed, ACTS stay", SlotsEdgesTest::keepChangesNothingElse);
    }

    private static void keepUnknown() {
        for (int slot : new int[] {-1, 2, 32, Integer.MIN_VALUE, Integer.MAX_VALUE}) {
            Twins.refused("keep(" + slot + ")", x -> x.keep(slot), Due.UNKNOWN);
            Twins.refused("keep(" + slot + ") on a new object", HoundLicence::new, x -> x.keep(slot), Due.UNKNOWN);
        }
    }

    private static void keepBoth() {
        HoundLicence x = Due.under(LAW);
        x.keep(0);
        Due.is("again(1)", x.again(1), Due.LATE);
        x.hour();
        x.keep(1);
        x.hour();
        Due.is("again(0)", x.again(0), 0);
        Due.is("again(1)", x.again(1), 1);
        HoundLicence y = Due.under(LAW);
        y.keep(1);
        Due.is("again(0)", y.again(0), Due.LATE);
        Due.is("again(1)", y.again(1), 0);
    }

    private static void keepHour() {
        HoundLicence x = new HoundLicence();
        for (int hour = 0; hour < 30; hour++) {
            Due.is("keep(" + hour % 2 + ")", x.keep(hour % 2), hour);
            x.hour();
        }
        Due.is("again(0)", x.again(0), 28);
        Due.is("again(1)", x.again(1), 29);
    }

    private static void keepOver() {
        HoundLicence x = Due.under(LAW);
        x.keep(0);
        x.lead(0, 1);
        x.hour();
        Due.is("keep(0)", x.keep(0), 1);
        x.hour();
        Due.is("again(0)", x.again(0), 1);
        Due.is("dog(0, 0)", x.dog(0, 0), 1);
    }

    private static void keepNobody() {
        HoundLicence x = new HoundLicence();
        Due.is("keep(0)", x.keep(0), 0);
        x.hour();
        Due.is("again(0)", x.again(0), 0);
        Due.is("about(3)", x.about(3), 0);
        Due.is("about(8)", x.about(8), 0);
    }

    private static void keepChangesNothingElse() {
        HoundLicence x = Twins.lively();
        HoundLicence y = Twins.lively();
        x.keep(0);
        Due.same("all behind keep(0)", State.all(x), State.all(y));
        Due.same("ACTS behind keep(0)", State.undone(x), State.undone(y));
        HoundLicence z = Twins.lively();
        z.keep(0);
        Due.same("the other slot behind keep(0)", State.keptIn(z, 1), State.keptIn(Twins.lively(), 1));
    }

    private static void again() {
        Due.edge("29: UNKNOWN", SlotsEdgesTest::againUnknown);
        Due.edge("29: LATE: none were kept", SlotsEdgesTest::againLate);
        Due.edge("29: LATE: none were kept since THE LAW was made anew", SlotsEdgesTest::againLateBehindOrdain);
        Due.edge("29: UNKNOWN is told ahead of LATE", SlotsEdgesTest::againUnknownAheadOfLate);
        Due.edge("29: They are as they were kept: THE HOUR", SlotsEdgesTest::againAsTheyWere);
        Due.edge("29, SLOTS: (no ACTS when one goes on)", SlotsEdgesTest::againWithoutActs);
        Due.edge("29: as they were kept, once more", SlotsEdgesTest::againTwice);
        Due.edge("29, SLOTS: SEEN, THE SEED and THE TEXT are not kept", SlotsEdgesTest::againNothingElse);
    }

    private static void againUnknown() {
        for (int slot : new int[] {-1, 2, 31, 32, 33, Integer.MIN_VALUE, Integer.MAX_VALUE}) {
            Twins.refused("again(" + slot + ")", x -> x.again(slot), Due.UNKNOWN);
        }
    }

    private static void againLate() {
        Supplier<HoundLicence> none = () -> {
            HoundLicence x = Due.under(LAW);
            x.lead(0, 1);
            x.hour();
            return x;
        };
        Twins.refused("again(0)", none, x -> x.again(0), Due.LATE);
        Twins.refused("again(1)", none, x -> x.again(1), Due.LATE);
        Twins.refused("again(0) with the other kept", () -> {
            HoundLicence x = none.get();
            x.keep(1);
            return x;
        }, x -> x.again(0), Due.LATE);
        Twins.refused("again(1) with the other kept", () -> {
            HoundLicence x = none.get();
            x.keep(0);
            return x;
        }, x -> x.again(1), Due.LATE);
    }

    private static void againLateBehindOrdain() {
        Supplier<HoundLicence> anew = () -> {
            HoundLicence x = Twins.lively();
            x.ordain();
            x.hour();
            return x;
        };
        Twins.refused("again(0)", anew, x -> x.again(0), Due.LATE);
        Twins.refused("again(1)", anew, x -> x.again(1), Due.LATE);
    }

    private static void againUnknownAheadOfLate() {
        Twins.refused("again(2)", HoundLicence::new, x -> x.again(2), Due.UNKNOWN);
        Twins.refused("again(-1)", HoundLicence::new, x -> x.again(-1), Due.UNKNOWN);
    }

    /** What can be kept of an object behind some ACTS, each of which another question would tell. */
    private static HoundLicence busy() {
        HoundLicence x = Due.under(LAW);
        x.leash(1);
        x.give(1, 1);
        Due.is("hour()", x.hour(), 1);
        x.lead(0, 2);
        x.lead(1, 1);
        return x;
    }

    private static void againAsTheyWere() {
        HoundLicence x = busy();
        Due.is("keep(1)", x.keep(1), 1);
        x.leash(1);
        x.give(2, 1);
        x.lead(0, 2);
        x.give(1, 0);
        Due.is("hour()", x.hour(), 0);
        x.lead(1, 2);
        x.hour();
        Due.is("again(1)", x.again(1), 1);
        HoundLicence y = busy();
        y.keep(1);
        y.again(1);
        Due.same("all", State.all(x), State.all(y));
        Due.same("ahead", State.ahead(x), State.ahead(y));
        Due.is("THE HOUR", x.about(3), 1);
        Due.is("leashed", x.about(5), 2);
        Due.is("IMPOUNDED", x.about(6), 1);
        Due.is("BONES", x.dog(0, 4), 2);
        Due.row("dog(#, 0)", dog -> x.dog(dog, 0), 4, 1);
        Due.row("dog(#, 3)", dog -> x.dog(dog, 3), 1, 2);
        Due.row("man(#, 1)", man -> x.man(man, 1), 0, 1, 1);
        Due.row("man(#, 4)", man -> x.man(man, 4), 3, 0, 0);
    }

    private static void againWithoutActs() {
        HoundLicence x = Twins.lively();
        Due.is("about(8)", x.about(8), 7);
        Due.is("again(0)", x.again(0), 1);
        Due.is("about(8) behind again(0)", x.about(8), 0);
        Due.is("undo()", x.undo(), Due.LATE);
        Due.is("about(3)", x.about(3), 1);
        x.hour();
        Due.is("undo()", x.undo(), 0);
        Due.is("about(3)", x.about(3), 1);
        Due.is("undo()", x.undo(), Due.LATE);
    }

    private static void againTwice() {
        HoundLicence x = busy();
        x.keep(0);
        Due.is("again(0)", x.again(0), 1);
        String kept = State.all(x);
        x.lead(0, 1);
        x.leash(1);
        Due.hours(x, 5);
        Due.is("again(0)", x.again(0), 1);
        Due.same("again(0), once more", State.all(x), kept);
        x.undo();
        Due.is("again(0)", x.again(0), 1);
        Due.same("again(0), a third time", State.all(x), kept);
    }

    private static void againNothingElse() {
        HoundLicence x = Due.under(LAW);
        x.keep(0);
        x.see(0, 0, 0);
        x.seed(5);
        x.write(1);
        Due.is("again(0)", x.again(0), 0);
        Due.is("SEEN", x.about(9), 1);
        Due.is("bytes", x.about(10), 28);
        Due.is("THE SEED", x.seed(0), 5);
    }
}
