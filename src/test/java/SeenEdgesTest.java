import java.util.function.Supplier;

/** The edges that promises 20 to 23 name, each with a test of its own. */
public final class SeenEdgesTest {
    private static final int MIN = Integer.MIN_VALUE, MAX = Integer.MAX_VALUE;

    public static void main(String[] args) {
        see();
        unsee();
        walks();
        sure();
        Due.end();
    }

    private static void see() {
        Due.edge("20: UNKNOWN", SeenEdgesTest::seeUnknown);
        Due.edge("20: BAD: street", SeenEdgesTest::seeBadStreet);
        Due.edge("20: BAD: t", SeenEdgesTest::seeBadHour);
        Due.edge("20: FULL: 6", SeenEdgesTest::seeFull);
        Due.edge("20: UNKNOWN is told ahead of BAD, BAD ahead of FULL", SeenEdgesTest::seeWhichFirst);
        Due.edge("20: the first and the last that is taken", SeenEdgesTest::seeLeastAndMost);
        Due.edge("20, SEEN: 6 such at most, also of MEN that there are not any more", SeenEdgesTest::seeFullOfTheGone);
        Due.edge("20: how many there are: the same once more", SeenEdgesTest::seeTheSame);
    }

    private static void seeUnknown() {
        for (int man : new int[] {-1, 4, 5, MIN, MAX}) {
            Twins.refused("see(" + man + ", 0, 0)", x -> x.see(man, 0, 0), Due.UNKNOWN);
        }
        for (int men = 0; men < 5; men++) {
            HoundLicence x = Due.under("L120000" + "M-00".repeat(men));
            Due.is("see(" + men + ", 0, 0)", x.see(men, 0, 0), Due.UNKNOWN);
            Due.is("see(" + (men - 1) + ", 0, 0)", x.see(men - 1, 0, 0), men == 0 ? Due.UNKNOWN : 1);
        }
    }

    private static void seeBadStreet() {
        for (int street : new int[] {-1, 5, MIN, MAX}) {
            Twins.refused("see(0, " + street + ", 0)", x -> x.see(0, street, 0), Due.BAD);
        }
    }

    private static void seeBadHour() {
        for (int t : new int[] {-1, 12, MIN, MAX}) {
            Twins.refused("see(0, 0, " + t + ")", x -> x.see(0, 0, t), Due.BAD);
        }
    }

    private static HoundLicence withSeen(int seen) {
        HoundLicence x = Twins.lively();
        while (x.about(9) < seen) {
            x.see(3, 4, x.about(9));
        }
        return x;
    }

    private static void seeFull() {
        Due.is("see(0, 0, 0) at 5", withSeen(5).see(0, 0, 0), 6);
        Supplier<HoundLicence> six = () -> withSeen(6);
        Twins.refused("see(0, 0, 0) at 6", six, x -> x.see(0, 0, 0), Due.FULL);
        Twins.refused("see(3, 4, 11) at 6", six, x -> x.see(3, 4, 11), Due.FULL);
    }

    private static void seeWhichFirst() {
        Supplier<HoundLicence> six = () -> withSeen(6);
        Twins.refused("see(4, 5, 12) at 6", six, x -> x.see(4, 5, 12), Due.UNKNOWN);
        Twins.refused("see(4, 0, 0) at 6", six, x -> x.see(4, 0, 0), Due.UNKNOWN);
        Twins.refused("see(0, 5, 0) at 6", six, x -> x.see(0, 5, 0), Due.BAD);
        Twins.refused("see(0, 0, 12) at 6", six, x -> x.see(0, 0, 12), Due.BAD);
        Twins.refused("see(4, 5, 0)", x -> x.see(4, 5, 0), Due.UNKNOWN);
        Twins.refused("see(4, 0, 12)", x -> x.see(4, 0, 12), Due.UNKNOWN);
    }

    private static void seeLeastAndMost() {
        HoundLicence x = Due.under("L120000M-00M-00M-00M-00M-00");
        Due.is("see(0, 0, 0)", x.see(0, 0, 0), 1);
        Due.is("see(4, 4, 11)", x.see(4, 4, 11), 2);
        Due.is("see(0, 4, 0)", x.see(0, 4, 0), 3);
        Due.is("see(4, 0, 11)", x.see(4, 0, 11), 4);
        Due.is("about(9)", x.about(9), 4);
    }

    private static void seeFullOfTheGone() {
        HoundLicence x = Due.under("L120000M-00M-00");
        for (int seen = 1; seen <= 6; seen++) {
            Due.is("see(1, 0, 0)", x.see(1, 0, 0), seen);
        }
        x.wipe();
        Due.write(x, "L120000M-00");
        Due.is("ordain()", x.ordain(), 1);
        Due.is("see(1, 0, 0)", x.see(1, 0, 0), Due.UNKNOWN);
        Due.is("see(0, 0, 0)", x.see(0, 0, 0), Due.FULL);
        Due.is("unsee()", x.unsee(), 6);
        Due.is("see(0, 0, 0)", x.see(0, 0, 0), 1);
    }

    private static void seeTheSame() {
        HoundLicence x = Due.under("L120000M-20");
        for (int seen = 1; seen <= 6; seen++) {
            Due.is("see(0, 2, 5)", x.see(0, 2, 5), seen);
        }
        Due.is("walks()", x.walks(), 1);
    }

    private static void unsee() {
        Due.edge("21: how much there was: nothing", () -> Due.is("unsee()", new HoundLicence().unsee(), 0));
        Due.edge("21: how much there was: 6", () -> Due.is("unsee()", withSeen(6).unsee(), 6));
        Due.edge("21: Nothing is SEEN", SeenEdgesTest::nothingSeen);
        Due.edge("21: nothing else is changed", SeenEdgesTest::nothingElseUnseen);
    }

    private static void nothingSeen() {
        HoundLicence x = Due.under("L120000D001M-00");
        for (int seen = 1; seen <= 6; seen++) {
            Due.is("see(0, 1, 0)", x.see(0, 1, 0), seen);
        }
        Due.is("walks()", x.walks(), 0);
        Due.is("unsee()", x.unsee(), 6);
        Due.is("about(9)", x.about(9), 0);
        Due.is("walks()", x.walks(), 2);
        Due.is("unsee()", x.unsee(), 0);
        for (int seen = 1; seen <= 6; seen++) {
            Due.is("see(0, 0, 0)", x.see(0, 0, 0), seen);
        }
        Due.is("see(0, 0, 0)", x.see(0, 0, 0), Due.FULL);
        Due.is("walks()", x.walks(), 2);
    }

    private static void nothingElseUnseen() {
        Twins.unchanged("unsee() and the same SEEN", Twins::lively, x -> {
            x.unsee();
            x.see(0, 3, 1);
            x.see(3, 4, 11);
            return 0;
        });
    }

    private static void walks() {
        Due.edge("22: how many: none", SeenEdgesTest::walksNone);
        Due.edge("22: how many: one, without MEN or without DOGS", SeenEdgesTest::walksOne);
        Due.edge("22, WALKS: (none by more than it can keep)", SeenEdgesTest::walksByRoom);
        Due.edge("22, WALKS: as many as there can be", SeenEdgesTest::walksMost);
        Due.edge("22, WALKS: those of odd RANK went on each HOUR, of even RANK stayed", SeenEdgesTest::walksByRank);
        Due.edge("22, Terms: a ring (0 is behind 4), HOUR t (0 .. 11)", SeenEdgesTest::walksOnTheRing);
        Due.edge("22, WALKS: those with none stayed on their STREETS", SeenEdgesTest::walksOfNone);
        Due.edge("22, WALKS: as they are now", SeenEdgesTest::walksAsTheyAreNow);
        Due.edge("22, WALKS: all that was SEEN, the first and the sixth", SeenEdgesTest::walksByAllSeen);
        Due.edge("22, SEEN: (of MEN that there are not any more nothing is looked at)", SeenEdgesTest::walksOfTheGone);
        Due.edge("22: nothing is changed", () -> Twins.unchanged("walks()", Twins::lively, HoundLicence::walks));
    }

    private static void walksNone() {
        HoundLicence x = Due.under("L120000D002M-00M-00");
        x.see(1, 1, 0);
        Due.is("walks()", x.walks(), 0);
    }

    private static void walksOne() {
        Due.is("walks() of nobody", new HoundLicence().walks(), 1);
        Due.is("walks() of four DOGS", Due.under("L120000D001D001D001D001").walks(), 1);
        Due.is("walks() of five MEN", Due.under("L120000M-00M-00M-00M-00M-00").walks(), 1);
    }

    private static void walksByRoom() {
        String[] men = {"", "M-00", "M-00M-00", "M-00M-00M-00", "M-00M-00M-00M-00", "M-00M-00M-00M-00M-00"};
        int[][] due = {{1, 2, 3, 4, 5, 6}, {1, 2, 4, 7, 11, 16}, {1, 2, 4, 8, 15, 26}};
        for (int room = 1; room <= 3; room++) {
            int can = room;
            Due.row("walks() of # MEN by a DOG that keeps " + room,
                n -> Due.under("L120000D00" + can + men[n]).walks(), due[room - 1]);
        }
        Due.is("walks() when it keeps one now", Due.under("L120000D001M000M-00").walks(), 3);
    }

    private static void walksMost() {
        Due.is("walks()", Due.under("L120000D003D003D003D003M-00M-00M-00M-00M-00").walks(), 3041);
    }

    private static void walksByRank() {
        for (int rank = 0; rank <= 9; rank++) {
            HoundLicence x = Due.under("L120000D1" + rank + "1M-00");
            x.see(0, 1, 1);
            Due.is("walks() where it was, RANK " + rank, x.walks(), rank % 2 == 0 ? 1 : 0);
            x.unsee();
            x.see(0, 2, 1);
            Due.is("walks() one on, RANK " + rank, x.walks(), rank % 2 == 0 ? 0 : 1);
        }
    }

    private static void walksOnTheRing() {
        for (int from = 0; from < 5; from++) {
            for (int t = 0; t <= 11; t++) {
                HoundLicence x = Due.under("L120000D" + from + "11M-" + (from + t + 1) % 5 + "0");
                x.see(0, (from + t) % 5, t);
                Due.is("sure(0) from " + from + " by " + t, x.sure(0), 0);
                Due.is("walks() from " + from + " by " + t, x.walks(), 1);
            }
        }
    }

    private static void walksOfNone() {
        for (int street = 0; street < 5; street++) {
            for (int t : new int[] {0, 1, 4, 11}) {
                HoundLicence x = Due.under("L120000M-" + street + "0");
                x.see(0, street, t);
                Due.is("walks() where it is", x.walks(), 1);
                x.see(0, (street + 1) % 5, t);
                Due.is("walks() where it is not", x.walks(), 0);
            }
        }
    }

    private static void walksAsTheyAreNow() {
        HoundLicence x = Due.under("L123333D001M001");
        x.see(0, 1, 0);
        Due.is("walks()", x.walks(), 0);
        x.lead(0, 1);
        Due.is("walks() when led there", x.walks(), 2);
        x.hour();
        Due.is("walks() an HOUR later", x.walks(), 2);
        x.lead(0, 1);
        Due.is("walks() when led on", x.walks(), 0);
        x.undo();
        Due.is("walks() when undone", x.walks(), 2);
    }

    private static void walksByAllSeen() {
        for (int odd = 0; odd < 6; odd++) {
            HoundLicence x = Due.under("L120000D001M-00M-00");
            for (int seen = 0; seen < 6; seen++) {
                x.see(seen % 2, seen == odd ? 1 : 0, seen);
            }
            Due.is("walks() with the one at " + odd + " elsewhere", x.walks(), 0);
        }
    }

    private static void walksOfTheGone() {
        HoundLicence x = Due.under("L120000M-00M-00");
        x.see(1, 4, 0);
        Due.is("walks()", x.walks(), 0);
        x.wipe();
        Due.write(x, "L120000M-00");
        x.ordain();
        Due.is("walks() without it", x.walks(), 1);
        Due.is("sure(0) without it", x.sure(0), 9);
        x.wipe();
        Due.write(x, "L120000");
        x.ordain();
        Due.is("walks() of nobody", x.walks(), 1);
        Due.is("about(9)", x.about(9), 1);
    }

    private static void sure() {
        Due.edge("23: UNKNOWN", SeenEdgesTest::sureUnknown);
        Due.edge("23: (9: with none)", SeenEdgesTest::sureWithNone);
        Due.edge("23: with whom: the first and the last DOG", SeenEdgesTest::sureWithDog);
        Due.edge("23: NONE: UNSURE", SeenEdgesTest::unsure);
        Due.edge("23: NONE: or there are none", SeenEdgesTest::sureOfNoWalks);
        Due.edge("23: in all of them, when another's DOG can keep no more", SeenEdgesTest::sureByRoom);
        Due.edge("23: nothing is changed", () -> Twins.unchanged("sure(1)", Twins::lively, x -> x.sure(1)));
    }

    private static void sureUnknown() {
        for (int man : new int[] {-1, 4, 5, MIN, MAX}) {
            Twins.refused("sure(" + man + ")", x -> x.sure(man), Due.UNKNOWN);
        }
        for (int men = 0; men < 5; men++) {
            HoundLicence x = Due.under("L120000" + "M-00".repeat(men));
            Due.is("sure(" + men + ")", x.sure(men), Due.UNKNOWN);
            Due.is("sure(" + (men - 1) + ")", x.sure(men - 1), men == 0 ? Due.UNKNOWN : 9);
        }
    }

    private static void sureWithNone() {
        HoundLicence x = Due.under("L120000D001D001D001D001M-40");
        Due.is("sure(0)", x.sure(0), Due.NONE);
        x.see(0, 4, 0);
        Due.is("sure(0)", x.sure(0), 9);
    }

    private static void sureWithDog() {
        for (int dog = 0; dog < 4; dog++) {
            HoundLicence x = Due.under("L120000D001D101D201D301M-40");
            x.see(0, dog, 0);
            Due.is("sure(0) on " + dog, x.sure(0), dog);
        }
    }

    private static void unsure() {
        HoundLicence x = Due.under("L120000D001D001M-40M-00");
        x.see(0, 0, 0);
        Due.is("sure(0), with DOG 0 or 1", x.sure(0), Due.NONE);
        Due.is("sure(1), with a DOG or none", x.sure(1), Due.NONE);
        x.see(1, 0, 0);
        Due.is("sure(1)", x.sure(1), Due.NONE);
        HoundLicence y = Due.under("L120000D001M-00");
        y.see(0, 0, 0);
        Due.is("sure(0), with DOG 0 or none", y.sure(0), Due.NONE);
    }

    private static void sureOfNoWalks() {
        HoundLicence x = Due.under("L120000D001M-00M-10");
        x.see(0, 3, 0);
        Due.is("walks()", x.walks(), 0);
        Due.is("sure(0), SEEN elsewhere", x.sure(0), Due.NONE);
        Due.is("sure(1), beside it", x.sure(1), Due.NONE);
        HoundLicence y = Due.under("L120000D001M-10M-10");
        y.see(0, 0, 0);
        Due.is("sure(0)", y.sure(0), 0);
        y.see(1, 0, 0);
        Due.is("sure(0), two with a DOG that keeps one", y.sure(0), Due.NONE);
        Due.is("sure(1), two with a DOG that keeps one", y.sure(1), Due.NONE);
        Due.is("walks()", y.walks(), 0);
    }

    private static void sureByRoom() {
        HoundLicence x = Due.under("L120000D001M-10M-00M-10");
        x.see(0, 0, 0);
        Due.is("sure(1), no room left", x.sure(1), 9);
        Due.is("sure(2), no room left", x.sure(2), 9);
        HoundLicence y = Due.under("L120000D002M-10M-00M-10");
        y.see(0, 0, 0);
        Due.is("sure(1), room for one more", y.sure(1), Due.NONE);
        y.see(2, 0, 0);
        Due.is("sure(1), no room left", y.sure(1), 9);
    }
}
