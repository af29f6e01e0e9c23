/** Promises 4 to 8: fault, ordain, about, dog, man. */
public final class LawTest {
    private static final String HEAD = "L120123";

    public static void main(String[] args) {
        faultInHead();
        faultInDogs();
        faultInMen();
        faultInParents();
        faultChangesNothing();
        ordain();
        ordainKeepsAndForgets();
        about();
        dog();
        man();
        Due.end();
    }

    private static void fault(String text, int due) {
        HoundLicence x = new HoundLicence();
        Due.write(x, text);
        Due.is("fault() of " + text, x.fault(), due);
        Due.is("fault() of " + text + ", once more", x.fault(), due);
        Due.that("ordain() of " + text, due == Due.NONE ? x.ordain() >= 0 : x.ordain() == Due.LATE);
    }

    private static void faultInHead() {
        fault("", 0);
        fault("l", 0);
        fault("D", 0);
        fault("0", 0);
        fault("L", 1);
        fault("LL", 1);
        fault("L2", 1);
        fault("L/", 1);
        fault("L0", 2);
        fault("L1", 2);
        fault("L0:", 2);
        fault("L1-", 2);
        fault("L13", 2);
        fault("L19", 2);
        fault("L00", 3);
        fault("L09", 3);
        fault("L12", 3);
        fault("L125", 3);
        fault("L1205", 4);
        fault("L12015", 5);
        fault("L120125", 6);
        fault("L12012D", 6);
        fault("L12012", 6);
        fault("L000000", Due.NONE);
        fault("L094444", Due.NONE);
        fault("L100123", Due.NONE);
        fault("L1101234", 7);
        fault(HEAD, Due.NONE);
        fault(HEAD + "0", 7);
        fault(HEAD + "L", 7);
        fault(HEAD + "\u00ff", 7);
        fault(HEAD + "\u0000", 7);
        fault(HEAD + "d", 7);
        fault("L1\u00b20", 2);
    }

    private static void faultInDogs() {
        fault(HEAD + "D", 8);
        fault(HEAD + "D5", 8);
        fault(HEAD + "D-", 8);
        fault(HEAD + "D4", 9);
        fault(HEAD + "D4/", 9);
        fault(HEAD + "D4:", 9);
        fault(HEAD + "D49", 10);
        fault(HEAD + "D490", 10);
        fault(HEAD + "D494", 10);
        fault(HEAD + "D491", Due.NONE);
        fault(HEAD + "D493", Due.NONE);
        fault(HEAD + "D001D112D223D331", Due.NONE);
        fault(HEAD + "D001D112D223D331D", 23);
        fault(HEAD + "D001D112D223D331D001", 23);
        fault(HEAD + "D001D112D223D331M-00", Due.NONE);
    }

    private static void faultInMen() {
        fault(HEAD + "M", 8);
        fault(HEAD + "M0", 8);
        fault(HEAD + "M:", 8);
        fault(HEAD + "M-", 9);
        fault(HEAD + "M--", 9);
        fault(HEAD + "M-5", 9);
        fault(HEAD + "M-4", 10);
        fault(HEAD + "M-42", 10);
        fault(HEAD + "M-4-", 10);
        fault(HEAD + "M-41", Due.NONE);
        fault(HEAD + "M-40", Due.NONE);
        fault(HEAD + "D201M0", 13);
        fault(HEAD + "D201M01", 13);
        fault(HEAD + "D201M0-", 13);
        fault(HEAD + "D201M02", 14);
        fault(HEAD + "D201M022", 14);
        fault(HEAD + "D201M021", Due.NONE);
        fault(HEAD + "D201M1", 12);
        fault(HEAD + "D201M020M", 16);
        fault(HEAD + "D201M020M0", 16);
        fault(HEAD + "D201M020M-31", Due.NONE);
        fault(HEAD + "D202M020M020M0", 20);
        fault(HEAD + "D203M020M020M020M020", 24);
        fault(HEAD + "D201M020D202M121M120", Due.NONE);
        fault(HEAD + "M-00M-10M-20M-30M-40", Due.NONE);
        fault(HEAD + "M-00M-10M-20M-30M-40M", 27);
        fault(HEAD + "M-00M-10M-20M-30M-40D001", Due.NONE);
    }

    private static void faultInParents() {
        String two = HEAD + "D001D001";
        String three = two + "D001";
        String four = three + "D001";
        fault(HEAD + "P", 7);
        fault(HEAD + "P01", 7);
        fault(HEAD + "D001P", 11);
        fault(two + "P", 16);
        fault(two + "P-", 16);
        fault(two + "P2", 16);
        fault(two + "P0", 17);
        fault(two + "P00", 17);
        fault(two + "P02", 17);
        fault(two + "P11", 17);
        fault(two + "P01", Due.NONE);
        fault(two + "P10", Due.NONE);
        fault(two + "P01P", 18);
        fault(two + "P01P10", 18);
        fault(two + "P01D001P", 23);
        fault(two + "P01D001P12", Due.NONE);
        fault(three + "P01P", 23);
        fault(three + "P01P0", 24);
        fault(three + "P01P10", 24);
        fault(three + "P01P21", 24);
        fault(three + "P01P11", 24);
        fault(three + "P01P20", Due.NONE);
        fault(three + "P01P12", Due.NONE);
        fault(three + "P01P02", Due.NONE);
        fault(three + "P01P02P", 25);
        fault(four + "P01P12P2", 31);
        fault(four + "P01P12P20", 31);
        fault(four + "P01P12P21", 31);
        fault(four + "P01P12P23", Due.NONE);
        fault(four + "P01P12P30", Due.NONE);
        fault(four + "P01P23P12P", 32);
        fault(four + "P01P23P30", Due.NONE);
        fault(four + "P01P23P32", 31);
        fault(four + "P4", 24);
    }

    private static void faultChangesNothing() {
        HoundLicence x = Due.under(HEAD + "D001M001");
        x.hour();
        x.wipe();
        Due.write(x, HEAD + "D441D441M14");
        String before = State.all(x);
        Due.is("fault() beside a law", x.fault(), 18);
        Due.same("fault() changes nothing", State.all(x), before);
    }

    private static void ordain() {
        HoundLicence x = new HoundLicence();
        Due.write(x, "L031234");
        Due.is("ordain() of a head", x.ordain(), 0);
        Due.is("LEASH", x.about(2), 3);
        Due.is("the text stays", x.about(10), 7);
        Due.write(x, "D001D123M-40M110M111");
        Due.is("ordain()", x.ordain(), 23);
        Due.is("about(0)", x.about(0), 2);
        Due.is("about(1)", x.about(1), 3);
        Due.is("ordain() again", x.ordain(), 23);
    }

    private static void ordainKeepsAndForgets() {
        HoundLicence x = Due.under("L001000D001D101M000M110P01");
        x.see(0, 3, 1);
        x.seed(77);
        x.hour();
        x.lead(1, 1);
        x.leash(0);
        x.keep(0);
        x.keep(1);
        Due.is("leashed ahead", x.about(5), 1);
        Due.is("IMPOUNDED ahead", x.about(6), 2);
        Due.is("BONES ahead", x.about(7), 2);
        Due.is("ordain()", x.ordain(), 22);
        Due.is("THE HOUR", x.about(3), 0);
        Due.is("leashed", x.about(5), 0);
        Due.is("IMPOUNDED", x.about(6), 0);
        Due.is("BONES", x.about(7), 0);
        Due.is("ACTS", x.about(8), 0);
        Due.is("SEEN", x.about(9), 1);
        Due.is("undo()", x.undo(), Due.LATE);
        Due.is("again(0)", x.again(0), Due.LATE);
        Due.is("again(1)", x.again(1), Due.LATE);
        Due.is("dog(1, 0)", x.dog(1, 0), 1);
        Due.is("man(1, 1)", x.man(1, 1), 1);
        Due.is("seed(0)", x.seed(0), 77);
        x.wipe();
        Due.write(x, "L120000D001D001");
        Due.is("ordain() without men", x.ordain(), 20);
        Due.is("a parent is forgotten", x.dog(1, 5), Due.NONE);
        Due.is("about(9)", x.about(9), 1);
        x.wipe();
        Due.write(x, "L120000D001M001");
        Due.is("ordain() of one that sings", x.ordain(), 11);
        x.wipe();
        Due.write(x, "L120000D001M000");
        Due.is("ordain() of one that does not", x.ordain(), 11);
        Due.is("man(0, 2)", x.man(0, 2), 0);
        Due.is("hour()", x.hour(), 0);
    }

    private static void about() {
        HoundLicence x = Due.under("L051234D001D102M000M111M-40P01");
        x.see(0, 0, 0);
        x.see(0, 0, 0);
        int[] streets = {1, 2, 3, 4, 1, 2};
        int[] caught = {2, 0, 0, 4, 2, 0};
        for (int hour = 0; hour < 6; hour++) {
            Due.is("where THE WARDEN is at " + hour, x.about(4), streets[hour]);
            Due.is("hour() at " + hour, x.hour(), caught[hour]);
        }
        x.leash(0);
        int[] due = {2, 3, 5, 6, 3, 1, 6, 4, 7, 2, 30};
        for (int what = 0; what < due.length; what++) {
            Due.is("about(" + what + ")", x.about(what), due[what]);
        }
    }

    private static void dog() {
        HoundLicence x = Due.under("L121111D093D401D123M000M001M210M-00P20");
        int[][] due = {{0, 9, 3, 3, 0, 2}, {4, 0, 1, 0, 0, Due.NONE}, {1, 2, 3, 4, 0, Due.NONE}};
        for (int dog = 0; dog < 3; dog++) {
            for (int what = 0; what < 6; what++) {
                Due.is("dog(" + dog + ", " + what + ")", x.dog(dog, what), due[dog][what]);
            }
        }
        x.lead(0, 1);
        Due.is("hour()", x.hour(), 2);
        Due.is("BONES of 0", x.dog(0, 4), 2);
        Due.is("BONES of 2", x.dog(2, 4), 0);
        Due.is("who is IMPOUNDED is kept all the same", x.dog(0, 3), 3);
    }

    private static void man() {
        HoundLicence x = Due.under("L121111D103M010M011M-41");
        x.leash(0);
        Due.is("hour()", x.hour(), 2);
        x.lead(0, 2);
        int[][] due = {{0, 0, 0, 1, 0}, {0, 1, 1, 0, 3}, {Due.NONE, 4, 1, 0, 0}};
        for (int man = 0; man < 3; man++) {
            for (int what = 0; what < 5; what++) {
                Due.is("man(" + man + ", " + what + ")", x.man(man, what), due[man][what]);
            }
        }
        for (int left = 2; left >= 0; left--) {
            x.hour();
            Due.is("man(1, 4)", x.man(1, 4), left);
            Due.is("man(1, 1)", x.man(1, 1), left == 0 ? 0 : 1);
        }
    }
}
