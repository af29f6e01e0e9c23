import java.util.function.Supplier;

/**
 * Objects made alike, of which one alone is asked: if it changes nothing, no later answer tells
 * them apart. Each look at them uses new ones, since an object is good for 512 calls only.
 */
final class Twins {
    private static final int LOOKS = 6;

    /** A call of an object. */
    interface Asks {
        long of(HoundLicence x);
    }

    private Twins() {
    }

    /** An object in which there is something of everything. */
    static HoundLicence lively() {
        HoundLicence x = Due.under("L051203D002D112D313D441M001M000M110M-40P01P12");
        x.leash(2);
        x.hour();
        x.keep(0);
        x.lead(0, 1);
        x.lead(0, 1);
        x.hour();
        x.keep(1);
        x.lead(0, 2);
        x.give(1, 1);
        x.see(0, 3, 1);
        x.see(3, 4, 11);
        x.seed(77);
        Due.write(x, "M-01");
        return x;
    }

    /** A call that is refused with this answer, and changes nothing. */
    static void refused(String call, Supplier<HoundLicence> made, Asks asks, long want) {
        Due.is(call, asks.of(made.get()), want);
        unchanged(call, made, asks);
    }

    static void refused(String call, Asks asks, long want) {
        refused(call, Twins::lively, asks, want);
    }

    /** A call that changes nothing, whatever it answers. */
    static void unchanged(String call, Supplier<HoundLicence> made, Asks asks) {
        for (int look = 0; look < LOOKS; look++) {
            HoundLicence asked = made.get();
            asks.of(asked);
            Due.same("behind " + call, look(look, asked), look(look, made.get()));
        }
    }

    private static String look(int look, HoundLicence x) {
        switch (look) {
            case 0: return State.all(x);
            case 1: return State.ahead(x);
            case 2: return State.undone(x);
            case 3: return State.keptIn(x, 0);
            case 4: return State.keptIn(x, 1);
            default: return State.ordained(x);
        }
    }
}
