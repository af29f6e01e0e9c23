/** Promises 9 to 13: lead, leash, give, hour, undo. */
public final class ActsTest {
    public static void main(String[] args) {
        lead();
        leash();
        give();
        giveBesideTheImpounded();
        hourBySong();
        hourByLateness();
        hourOfBachelors();
        hourFreesWithoutCatching();
        undo();
        undoOfEachAct();
        fullActs();
        Due.end();
    }

    private static void lead() {
        HoundLicence x = Due.under("L123333D402D001M040M-40M101");
        Due.is("lead(0, 1) over the end", x.lead(0, 1), 0);
        Due.is("its MAN goes along", x.man(0, 1), 0);
        Due.is("a BACHELOR does not", x.man(1, 1), 4);
        Due.is("another's does not", x.man(2, 1), 0);
        Due.is("lead(0, 2) over the end", x.lead(0, 2), 4);
        Due.is("lead(0, 2)", x.lead(0, 2), 3);
        Due.is("man(0, 1)", x.man(0, 1), 3);
        Due.is("ACTS", x.about(8), 3);
        Due.is("THE HOUR", x.about(3), 0);
    }

    private static void leash() {
        HoundLicence x = Due.under("L122222D002M001M000M-00");
        Due.is("leash(1)", x.leash(1), 1);
        Due.is("about(5)", x.about(5), 2);
        Due.is("leash(0)", x.leash(0), 1);
        Due.is("about(5)", x.about(5), 3);
        Due.is("leash(1) again", x.leash(1), 0);
        Due.is("about(5)", x.about(5), 1);
        Due.is("ACTS", x.about(8), 3);
        x.leash(0);
        x.lead(0, 1);
        x.lead(0, 1);
        Due.is("hour()", x.hour(), 1);
        Due.is("leash(1) beside it", x.leash(1), 1);
    }

    private static void give() {
        HoundLicence x = Due.under("L123333D001D002D111M000M100M-00M-10");
        Due.is("leash(0)", x.leash(0), 1);
        Due.is("give(0, 1)", x.give(0, 1), 0);
        Due.is("its DOG", x.man(0, 0), 1);
        Due.is("leashed as it was", x.man(0, 3), 1);
        Due.is("dog(0, 3)", x.dog(0, 3), 0);
        Due.is("dog(1, 3)", x.dog(1, 3), 3);
        Due.is("give(2, 0) of a BACHELOR", x.give(2, 0), Due.NONE);
        Due.is("man(2, 0)", x.man(2, 0), 0);
        Due.is("man(2, 3)", x.man(2, 3), 0);
        Due.is("ACTS", x.about(8), 3);
        Due.is("give(3, 2)", x.give(3, 2), Due.NONE);
        Due.is("it goes along with its new DOG", x.lead(2, 2), 0);
        Due.is("man(3, 1)", x.man(3, 1), 0);
    }

    private static void giveBesideTheImpounded() {
        HoundLicence x = Due.under("L120000D002D001M001M000");
        Due.is("hour()", x.hour(), 1);
        Due.is("give(1, 1)", x.give(1, 1), 0);
        Due.is("give(1, 0)", x.give(1, 0), 1);
    }

    private static void hourBySong() {
        HoundLicence x = Due.under("L120000D003M000M001M001");
        x.leash(2);
        Due.is("hour(): unleashed and sings", x.hour(), 2);
        Due.is("BONES", x.about(7), 2);
        Due.is("IMPOUNDED", x.about(6), 2);
        Due.is("man(1, 4)", x.man(1, 4), 3);
        Due.is("THE HOUR", x.about(3), 1);
        Due.is("ACTS", x.about(8), 2);
        HoundLicence y = Due.under("L121000D003M001");
        Due.is("hour() on another STREET", y.hour(), 0);
        Due.is("hour() on its STREET", y.hour(), 1);
        Due.is("BONES of its DOG", y.dog(0, 4), 2);
    }

    private static void hourByLateness() {
        HoundLicence x = Due.under("L020000D002M000M000");
        x.leash(1);
        int[] caught = {0, 0, 1, 0, 0, 0, 1, 0, 0, 0, 1, 0, 0, 0, 1, 0, 0, 0, 1};
        for (int hour = 0; hour < caught.length; hour++) {
            Due.is("hour() " + hour + " by LEASH 02", x.hour(), caught[hour]);
        }
        Due.is("BONES", x.about(7), 10);
        HoundLicence y = Due.under("L110000D002M000");
        for (int hour = 0; hour < 24; hour++) {
            Due.is("hour() " + hour + " by LEASH 11", y.hour(), hour == 11 || hour == 23 ? 1 : 0);
        }
        HoundLicence z = Due.under("L000000D001M000");
        Due.is("hour() 0 by LEASH 00", z.hour(), 1);
        HoundLicence never = Due.under("L120000D001M000");
        for (int hour = 0; hour < 14; hour++) {
            Due.is("hour() " + hour + " by LEASH 12", never.hour(), 0);
        }
    }

    private static void hourOfBachelors() {
        HoundLicence x = Due.under("L124321M-40M-20M-00");
        int[] caught = {1, 0, 2, 0, 1, 0, 2, 0, 1, 0, 2};
        int[] impounded = {1, 1, 3, 2, 3, 1, 3, 2, 3, 1, 3};
        for (int hour = 0; hour < caught.length; hour++) {
            Due.is("hour() " + hour, x.hour(), caught[hour]);
            Due.is("IMPOUNDED behind " + hour, x.about(6), impounded[hour]);
        }
        Due.is("BONES", x.about(7), 0);
        Due.is("where it was caught", x.man(0, 1), 4);
    }

    private static void hourFreesWithoutCatching() {
        HoundLicence x = Due.under("L120000D001M001");
        Due.is("hour() 0", x.hour(), 1);
        Due.is("lead(0, 1)", x.lead(0, 1), 1);
        Due.is("the IMPOUNDED one stays", x.man(0, 1), 0);
        Due.is("hour() 1", x.hour(), 0);
        Due.is("man(0, 4)", x.man(0, 4), 2);
        Due.is("hour() 2", x.hour(), 0);
        Due.is("man(0, 1) still", x.man(0, 1), 0);
        Due.is("hour() 3", x.hour(), 0);
        Due.is("man(0, 4) free", x.man(0, 4), 0);
        Due.is("man(0, 1) with its DOG", x.man(0, 1), 1);
        HoundLicence y = Due.under("L120000D001M001");
        int[] caught = {1, 0, 0, 0, 1, 0, 0, 0, 1};
        for (int hour = 0; hour < caught.length; hour++) {
            Due.is("hour() " + hour + " all at 0", y.hour(), caught[hour]);
        }
        Due.is("BONES", y.dog(0, 4), 6);
    }

    private static void undo() {
        HoundLicence x = Due.under("L120000D001M000");
        x.lead(0, 1);
        x.hour();
        x.see(0, 0, 0);
        x.seed(5);
        Due.is("undo()", x.undo(), 1);
        Due.is("THE HOUR", x.about(3), 0);
        Due.is("dog(0, 0)", x.dog(0, 0), 1);
        Due.is("undo()", x.undo(), 0);
        Due.is("dog(0, 0)", x.dog(0, 0), 0);
        Due.is("SEEN stays", x.about(9), 1);
        Due.is("THE SEED stays", x.seed(0), 5);
    }

    private static void undoOfEachAct() {
        HoundLicence x = Due.under("L120003D003D001M001M000M-40M-00");
        String[] states = new String[7];
        states[0] = State.acted(x);
        Due.is("leash(1)", x.leash(1), 1);
        states[1] = State.acted(x);
        Due.is("give(3, 0)", x.give(3, 0), Due.NONE);
        states[2] = State.acted(x);
        Due.is("hour()", x.hour(), 1);
        states[3] = State.acted(x);
        Due.is("lead(0, 2)", x.lead(0, 2), 4);
        states[4] = State.acted(x);
        Due.is("leash(1)", x.leash(1), 0);
        states[5] = State.acted(x);
        Due.is("hour()", x.hour(), 0);
        for (int left = 5; left >= 0; left--) {
            Due.is("undo()", x.undo(), left);
            Due.same("as it was behind " + left + " ACTS", State.acted(x), states[left]);
        }
    }

    private static void fullActs() {
        HoundLicence x = Due.under("L120000D001");
        for (int i = 1; i <= 20; i++) {
            x.lead(0, 1);
            Due.is("ACTS", x.about(8), Math.min(i, 14));
        }
        Due.is("dog(0, 0)", x.dog(0, 0), 0);
        for (int left = 13; left >= 0; left--) {
            Due.is("undo()", x.undo(), left);
            Due.is("dog(0, 0)", x.dog(0, 0), (left + 6) % 5);
        }
        Due.is("undo() of what is forgotten", x.undo(), Due.LATE);
        Due.is("dog(0, 0) behind six ACTS", x.dog(0, 0), 1);
    }
}
