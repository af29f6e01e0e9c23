/** Promises 20 to 23: see, unsee, walks, sure. */
public final class SeenTest {
    public static void main(String[] args) {
        see();
        unsee();
        walksByRoom();
        walksByDogs();
        walksByStreetsOfNow();
        walksOfMenThatAreGone();
        sure();
        Due.end();
    }

    private static void see() {
        HoundLicence x = Due.under("L120000D001M000M-40");
        Due.is("see(0, 0, 0)", x.see(0, 0, 0), 1);
        Due.is("see(1, 4, 11)", x.see(1, 4, 11), 2);
        for (int count = 3; count <= 6; count++) {
            Due.is("see(1, 4, 11) again", x.see(1, 4, 11), count);
        }
        Due.is("about(9)", x.about(9), 6);
        Due.is("ACTS", x.about(8), 0);
    }

    private static void unsee() {
        HoundLicence x = Due.under("L120000D001M000");
        Due.is("unsee() of nothing", x.unsee(), 0);
        x.see(0, 1, 0);
        x.see(0, 2, 0);
        Due.is("walks()", x.walks(), 0);
        Due.is("unsee()", x.unsee(), 2);
        Due.is("unsee() again", x.unsee(), 0);
        Due.is("about(9)", x.about(9), 0);
        Due.is("walks()", x.walks(), 2);
        Due.is("see(0, 0, 0)", x.see(0, 0, 0), 1);
        Due.is("walks()", x.walks(), 2);
    }

    private static void walks(String law, int due) {
        HoundLicence x = Due.under(law);
        String before = State.all(x);
        Due.is("walks() by " + law, x.walks(), due);
        Due.same("walks changes nothing", State.all(x), before);
    }

    private static void walksByRoom() {
        walks("L120000", 1);
        walks("L120000D003", 1);
        walks("L120000M-00", 1);
        walks("L120000D001M000M-40", 3);
        walks("L120000D002M000M-40", 4);
        walks("L120000D001M-00M-00M-00M-00M-00", 6);
        walks("L120000D002M-00M-00M-00M-00M-00", 16);
        walks("L120000D003M-00M-00M-00M-00M-00", 26);
        walks("L120000D001D001D001D001M-00M-00M-00M-00M-00", 501);
        walks("L120000D003D003D003D003M-00M-00", 25);
    }

    private static void walksByDogs() {
        HoundLicence x = Due.under("L120000D001M000M-40");
        x.see(0, 0, 5);
        Due.is("walks(): a DOG of even RANK stays", x.walks(), 3);
        x.see(1, 4, 3);
        Due.is("walks(): one with none stays", x.walks(), 2);
        x.see(1, 0, 0);
        Due.is("walks(): at odds", x.walks(), 0);
        for (int t = 0; t <= 11; t++) {
            for (int street = 0; street < 5; street++) {
                for (int rank = 0; rank <= 9; rank++) {
                    HoundLicence y = Due.under("L120000D3" + rank + "2M-00");
                    y.see(0, street, t);
                    int with = rank % 2 == 1 ? (3 + t) % 5 : 3;
                    int due = (street == with ? 1 : 0) + (street == 0 ? 1 : 0);
                    Due.is("walks() at " + street + " by " + t + ", RANK " + rank, y.walks(), due);
                }
            }
        }
    }

    private static void walksByStreetsOfNow() {
        HoundLicence x = Due.under("L124000D012M-00M-41");
        x.see(0, 3, 3);
        Due.is("walks()", x.walks(), 2);
        Due.is("sure(0)", x.sure(0), 0);
        x.lead(0, 1);
        Due.is("walks() with the DOG led on", x.walks(), 0);
        x.undo();
        x.hour();
        Due.is("walks() at another HOUR", x.walks(), 2);
        HoundLicence y = Due.under("L120000D001M001");
        y.hour();
        y.lead(0, 1);
        y.see(0, 0, 9);
        Due.is("walks() of who is IMPOUNDED", y.walks(), 1);
        Due.is("sure() of who is IMPOUNDED", y.sure(0), 9);
    }

    private static void walksOfMenThatAreGone() {
        HoundLicence x = Due.under("L120000M-00M-10");
        x.see(1, 3, 3);
        Due.is("walks()", x.walks(), 0);
        x.wipe();
        Due.write(x, "L120000M-00");
        Due.is("ordain()", x.ordain(), 1);
        Due.is("walks() without that MAN", x.walks(), 1);
        Due.is("about(9)", x.about(9), 1);
        x.wipe();
        Due.write(x, "L120000M-00M-30");
        Due.is("ordain()", x.ordain(), 2);
        Due.is("walks() with such a one again", x.walks(), 1);
        x.wipe();
        Due.write(x, "L120000M-00M-20");
        Due.is("ordain()", x.ordain(), 2);
        Due.is("walks() with one elsewhere", x.walks(), 0);
    }

    private static void sure() {
        HoundLicence x = Due.under("L120000D011M-00M-00");
        Due.is("sure(0) of nothing SEEN", x.sure(0), Due.NONE);
        x.see(0, 1, 1);
        String before = State.all(x);
        Due.is("sure(0)", x.sure(0), 0);
        Due.is("sure(1), for which no room is left", x.sure(1), 9);
        Due.same("sure changes nothing", State.all(x), before);
        x.see(0, 0, 1);
        Due.is("walks()", x.walks(), 0);
        Due.is("sure(0) when there are none", x.sure(0), Due.NONE);
        Due.is("sure(1) when there are none", x.sure(1), Due.NONE);
        HoundLicence y = Due.under("L120000D001D111D223M-30M-40M-00M-30");
        y.see(0, 2, 4);
        Due.is("sure(0): DOG 2 or 1?", y.sure(0), 2);
        y.see(1, 4, 3);
        Due.is("sure(1): DOG 1 or none", y.sure(1), Due.NONE);
        y.see(1, 0, 4);
        Due.is("sure(1): DOG 1", y.sure(1), 1);
        Due.is("sure(2): UNSURE", y.sure(2), Due.NONE);
        y.see(3, 0, 0);
        Due.is("sure(3): DOG 0", y.sure(3), 0);
        Due.is("walks()", y.walks(), 2);
        HoundLicence z = Due.under("L120000M-00");
        Due.is("sure(0) without DOGS", z.sure(0), 9);
    }
}
