import java.util.function.Supplier;

/** The edges that promises 9 to 13 name, each with a test of its own. */
public final class ActsEdgesTest {
    public static void main(String[] args) {
        lead();
        leash();
        give();
        hour();
        hourOfTheImpounded();
        undo();
        Due.end();
    }

    private static void lead() {
        Due.edge("9: UNKNOWN", ActsEdgesTest::leadUnknown);
        Due.edge("9: BAD: way (1 on, 2 back)", ActsEdgesTest::leadBad);
        Due.edge("9: UNKNOWN is told ahead of BAD", ActsEdgesTest::leadUnknownAheadOfBad);
        Due.edge("9, Terms: a ring (0 is behind 4): on", ActsEdgesTest::leadOnRound);
        Due.edge("9, Terms: a ring (0 is behind 4): back", ActsEdgesTest::leadBackRound);
        Due.edge("9, LED: all MEN that it keeps go along", ActsEdgesTest::leadAllItKeeps);
        Due.edge("9, LED: and that are not IMPOUNDED", ActsEdgesTest::leadWithoutTheImpounded);
        Due.edge("9: the last DOG that there can be", ActsEdgesTest::leadLast);
    }

    private static void leadUnknown() {
        for (int dog : new int[] {-1, 4, 5, Integer.MIN_VALUE, Integer.MAX_VALUE}) {
            Twins.refused("lead(" + dog + ", 1)", x -> x.lead(dog, 1), Due.UNKNOWN);
        }
        for (int dogs = 0; dogs < 4; dogs++) {
            HoundLicence x = Due.under("L120000" + "D001".repeat(dogs));
            Due.is("lead(" + dogs + ", 1)", x.lead(dogs, 1), Due.UNKNOWN);
            Due.is("lead(" + (dogs - 1) + ", 1)", x.lead(dogs - 1, 1), dogs == 0 ? Due.UNKNOWN : 1);
        }
    }

    private static void leadBad() {
        for (int way : new int[] {0, 3, -1, Integer.MIN_VALUE, Integer.MAX_VALUE}) {
            Twins.refused("lead(0, " + way + ")", x -> x.lead(0, way), Due.BAD);
        }
        Due.is("lead(0, 1)", Due.under("L120000D201").lead(0, 1), 3);
        Due.is("lead(0, 2)", Due.under("L120000D201").lead(0, 2), 1);
    }

    private static void leadUnknownAheadOfBad() {
        Twins.refused("lead(4, 0)", x -> x.lead(4, 0), Due.UNKNOWN);
        Twins.refused("lead(-1, 3)", x -> x.lead(-1, 3), Due.UNKNOWN);
    }

    private static void leadOnRound() {
        HoundLicence x = Due.under("L120000D001M000");
        for (int street : new int[] {1, 2, 3, 4, 0, 1}) {
            Due.is("lead(0, 1)", x.lead(0, 1), street);
            Due.is("dog(0, 0)", x.dog(0, 0), street);
            Due.is("man(0, 1)", x.man(0, 1), street);
        }
    }

    private static void leadBackRound() {
        HoundLicence x = Due.under("L120000D001M000");
        for (int street : new int[] {4, 3, 2, 1, 0, 4}) {
            Due.is("lead(0, 2)", x.lead(0, 2), street);
            Due.is("dog(0, 0)", x.dog(0, 0), street);
            Due.is("man(0, 1)", x.man(0, 1), street);
        }
    }

    private static void leadAllItKeeps() {
        HoundLicence x = Due.under("L120000D203D203M020M120M021M-20M020");
        x.leash(2);
        x.lead(0, 1);
        Due.row("man(#, 1)", man -> x.man(man, 1), 3, 2, 3, 2, 3, Due.UNKNOWN);
        Due.is("dog(1, 0)", x.dog(1, 0), 2);
        Due.is("THE HOUR", x.about(3), 0);
        Due.is("lead(1, 2) of the other", x.lead(1, 2), 1);
        Due.row("man(#, 1)", man -> x.man(man, 1), 3, 1, 3, 2, 3);
    }

    private static void leadWithoutTheImpounded() {
        HoundLicence x = Due.under("L122222D202M021M020");
        Due.is("hour()", x.hour(), 1);
        for (int left = 3; left > 0; left--) {
            x.lead(0, 1);
            Due.is("man(0, 1) with " + left + " left", x.man(0, 1), 2);
            Due.is("man(1, 1)", x.man(1, 1), x.dog(0, 0));
            x.hour();
        }
        Due.is("lead(0, 1) when it is free", x.lead(0, 1), 1);
        Due.is("man(0, 1) when it is free", x.man(0, 1), 1);
    }

    private static void leadLast() {
        HoundLicence x = Due.under("L120000D001D001D001D401M340");
        Due.is("lead(3, 1)", x.lead(3, 1), 0);
        Due.row("dog(#, 0)", dog -> x.dog(dog, 0), 0, 0, 0, 0);
        Due.is("lead(3, 1)", x.lead(3, 1), 1);
        Due.row("dog(#, 0)", dog -> x.dog(dog, 0), 0, 0, 0, 1);
        Due.is("man(0, 1)", x.man(0, 1), 1);
    }

    private static void leash() {
        Due.edge("10: UNKNOWN", ActsEdgesTest::leashUnknown);
        Due.edge("10: LATE: it is a BACHELOR", ActsEdgesTest::leashOfBachelor);
        Due.edge("10: LATE: or IMPOUNDED", ActsEdgesTest::leashOfImpounded);
        Due.edge("10: 1 if it is leashed then, 0", ActsEdgesTest::leashAndNotAnyMore);
        Due.edge("10: the last MAN that there can be", ActsEdgesTest::leashLast);
    }

    private static void leashUnknown() {
        for (int man : new int[] {-1, 4, 5, 32, Integer.MIN_VALUE, Integer.MAX_VALUE}) {
            Twins.refused("leash(" + man + ")", x -> x.leash(man), Due.UNKNOWN);
        }
        for (int men = 0; men < 4; men++) {
            HoundLicence x = Due.under("L120000D003" + "M000".repeat(men));
            Due.is("leash(" + men + ")", x.leash(men), Due.UNKNOWN);
            Due.is("leash(" + (men - 1) + ")", x.leash(men - 1), men == 0 ? Due.UNKNOWN : 1);
        }
    }

    private static void leashOfBachelor() {
        Twins.refused("leash(3)", x -> x.leash(3), Due.LATE);
        Supplier<HoundLicence> made = () -> Due.under("L121234D001M-00");
        Twins.refused("leash(0)", made, x -> x.leash(0), Due.LATE);
        HoundLicence x = made.get();
        Due.is("give(0, 0)", x.give(0, 0), Due.NONE);
        Due.is("leash(0) when it is none any more", x.leash(0), 1);
    }

    /** One DOG, whose MAN was caught on the first HOUR. */
    private static HoundLicence impoundedFor(int left) {
        HoundLicence x = Due.under("L120000D002D001M001");
        Due.hours(x, 4 - left);
        Due.is("man(0, 4)", x.man(0, 4), left);
        return x;
    }

    private static void leashOfImpounded() {
        for (int left = 1; left <= 3; left++) {
            int hours = left;
            Twins.refused("leash(0) with " + left + " left", () -> impoundedFor(hours), x -> x.leash(0), Due.LATE);
        }
        Due.is("leash(0) when it is free", impoundedFor(0).leash(0), 1);
    }

    private static void leashAndNotAnyMore() {
        HoundLicence x = Due.under("L120000D003M000M000M000");
        Due.is("leash(1)", x.leash(1), 1);
        Due.is("about(5)", x.about(5), 2);
        Due.is("leash(1)", x.leash(1), 0);
        Due.is("about(5)", x.about(5), 0);
        Due.is("leash(1)", x.leash(1), 1);
        Due.is("leash(0)", x.leash(0), 1);
        Due.is("leash(2)", x.leash(2), 1);
        Due.is("about(5)", x.about(5), 7);
        Due.is("leash(1)", x.leash(1), 0);
        Due.is("about(5)", x.about(5), 5);
    }

    private static void leashLast() {
        HoundLicence x = Due.under("L120000D001M-00M-00M-00M-00M000");
        Due.is("leash(4)", x.leash(4), 1);
        Due.is("about(5)", x.about(5), 16);
        Due.is("leash(5)", x.leash(5), Due.UNKNOWN);
    }

    private static void give() {
        Due.edge("11: UNKNOWN: man", ActsEdgesTest::giveUnknownMan);
        Due.edge("11: UNKNOWN: dog", ActsEdgesTest::giveUnknownDog);
        Due.edge("11: UNKNOWN is told ahead of LATE", ActsEdgesTest::giveUnknownAheadOfLate);
        Due.edge("11: LATE: it is IMPOUNDED", ActsEdgesTest::giveOfImpounded);
        Due.edge("11: LATE: that DOG's", ActsEdgesTest::giveToItsOwn);
        Due.edge("11: LATE: or not on its STREET", ActsEdgesTest::giveElsewhere);
        Due.edge("11: FULL", ActsEdgesTest::giveToFull);
        Due.edge("11: FULL: who is IMPOUNDED is kept too", ActsEdgesTest::giveToFullOfImpounded);
        Due.edge("11: LATE is told ahead of FULL", ActsEdgesTest::giveLateAheadOfFull);
        Due.edge("11: whose it was; NONE: a BACHELOR", ActsEdgesTest::giveWhose);
        Due.edge("11: the last MAN and the last DOG that there can be", ActsEdgesTest::giveLast);
        Due.edge("11, GIVEN: (leashed as it was)", ActsEdgesTest::giveLeashedAsItWas);
        Due.edge("11, GIVEN: is kept by another DOG", ActsEdgesTest::giveToBeKept);
    }

    private static void giveUnknownMan() {
        for (int man : new int[] {-1, 4, 5, 32, Integer.MIN_VALUE, Integer.MAX_VALUE}) {
            Twins.refused("give(" + man + ", 0)", x -> x.give(man, 0), Due.UNKNOWN);
        }
    }

    private static void giveUnknownDog() {
        for (int dog : new int[] {-1, 4, 5, Due.NONE, Integer.MIN_VALUE, Integer.MAX_VALUE}) {
            Twins.refused("give(1, " + dog + ")", x -> x.give(1, dog), Due.UNKNOWN);
        }
        Supplier<HoundLicence> three = () -> Due.under("L120000D001D001D001M000");
        Twins.refused("give(0, 3) of three", three, x -> x.give(0, 3), Due.UNKNOWN);
        Due.is("give(0, 2) of three", three.get().give(0, 2), 0);
    }

    private static void giveUnknownAheadOfLate() {
        Twins.refused("give(0, 4) of one IMPOUNDED", x -> x.give(0, 4), Due.UNKNOWN);
        Twins.refused("give(3, -1) of a BACHELOR", x -> x.give(3, -1), Due.UNKNOWN);
        Twins.refused("give(5, 4)", x -> x.give(5, 4), Due.UNKNOWN);
    }

    private static void giveOfImpounded() {
        for (int left = 1; left <= 3; left++) {
            int hours = left;
            Twins.refused("give(0, 1) with " + left + " left", () -> impoundedFor(hours), x -> x.give(0, 1), Due.LATE);
        }
        Due.is("give(0, 1) when it is free", impoundedFor(0).give(0, 1), 0);
        Twins.refused("give(0, 0) of an IMPOUNDED BACHELOR", () -> {
            HoundLicence x = Due.under("L120000D001M-00");
            x.hour();
            return x;
        }, x -> x.give(0, 0), Due.LATE);
    }

    private static void giveToItsOwn() {
        Supplier<HoundLicence> made = () -> Due.under("L120000D003D003M000M100");
        Twins.refused("give(0, 0)", made, x -> x.give(0, 0), Due.LATE);
        Twins.refused("give(1, 1)", made, x -> x.give(1, 1), Due.LATE);
        Due.is("give(0, 1)", made.get().give(0, 1), 0);
        Due.is("give(1, 0)", made.get().give(1, 0), 1);
    }

    private static void giveElsewhere() {
        for (int street = 0; street < 5; street++) {
            for (int other = 0; other < 5; other++) {
                String law = "L121111D" + street + "01D" + other + "01M0" + street + "0M-" + street + "0";
                Due.is("give(0, 1) by " + law, Due.under(law).give(0, 1), street == other ? 0 : Due.LATE);
                Due.is("give(1, 1) by " + law, Due.under(law).give(1, 1), street == other ? Due.NONE : Due.LATE);
            }
        }
        Supplier<HoundLicence> made = () -> Due.under("L121111D001D403M000");
        Twins.refused("give(0, 1) next door", made, x -> x.give(0, 1), Due.LATE);
        HoundLicence x = made.get();
        x.lead(1, 1);
        Due.is("give(0, 1) when they have met", x.give(0, 1), 0);
    }

    private static void giveToFull() {
        for (int room = 1; room <= 3; room++) {
            String law = "L121111D00" + room + "M-00M-00M-00M-00";
            int last = room;
            Supplier<HoundLicence> made = () -> {
                HoundLicence x = Due.under(law);
                for (int man = 0; man < last; man++) {
                    Due.is("give(" + man + ", 0) by " + law, x.give(man, 0), Due.NONE);
                }
                return x;
            };
            Twins.refused("give(" + last + ", 0) by " + law, made, x -> x.give(last, 0), Due.FULL);
        }
    }

    private static void giveToFullOfImpounded() {
        Supplier<HoundLicence> made = () -> {
            HoundLicence x = Due.under("L120000D002D001M001M001M100");
            Due.is("hour()", x.hour(), 3);
            return x;
        };
        Twins.refused("give(2, 0)", made, x -> x.give(2, 0), Due.FULL);
    }

    private static void giveLateAheadOfFull() {
        Supplier<HoundLicence> made = () -> Due.under("L120000D001D001D101M001M100M-10M210");
        Twins.refused("give(0, 0), its own and full", made, x -> x.give(0, 0), Due.LATE);
        Twins.refused("give(0, 2), elsewhere and full", made, x -> x.give(0, 2), Due.LATE);
        Twins.refused("give(2, 0), a BACHELOR elsewhere", made, x -> x.give(2, 0), Due.LATE);
        Twins.refused("give(0, 1), IMPOUNDED", () -> {
            HoundLicence x = made.get();
            Due.is("hour()", x.hour(), 1);
            return x;
        }, x -> x.give(0, 1), Due.LATE);
        Twins.refused("give(0, 1), full", made, x -> x.give(0, 1), Due.FULL);
        Twins.refused("give(2, 2), full", made, x -> x.give(2, 2), Due.FULL);
    }

    private static void giveWhose() {
        HoundLicence x = Due.under("L121111D001D001D001M-00");
        Due.is("give(0, 1)", x.give(0, 1), Due.NONE);
        Due.is("give(0, 0)", x.give(0, 0), 1);
        Due.is("give(0, 2)", x.give(0, 2), 0);
        Due.is("give(0, 1)", x.give(0, 1), 2);
        Due.row("dog(#, 3)", dog -> x.dog(dog, 3), 0, 1, 0);
    }

    private static void giveLast() {
        HoundLicence x = Due.under("L121111D001D001D001D001M-00M-00M-00M-00M-00");
        Due.is("give(4, 3)", x.give(4, 3), Due.NONE);
        Due.is("dog(3, 3)", x.dog(3, 3), 16);
        Due.is("give(4, 0)", x.give(4, 0), 3);
    }

    private static void giveLeashedAsItWas() {
        HoundLicence x = Due.under("L121111D003D003M000M000M-00");
        x.leash(0);
        x.give(0, 1);
        x.give(1, 1);
        x.give(2, 1);
        Due.is("about(5)", x.about(5), 1);
        Due.is("leash(2)", x.leash(2), 1);
        x.give(2, 0);
        Due.is("about(5)", x.about(5), 5);
    }

    private static void giveToBeKept() {
        HoundLicence x = Due.under("L120000D002D001M-00M001");
        Due.is("give(0, 1)", x.give(0, 1), Due.NONE);
        Due.is("give(1, 1)", x.give(1, 1), Due.FULL);
        Due.is("hour(): it is no BACHELOR any more", x.hour(), 2);
        Due.is("dog(0, 4)", x.dog(0, 4), 2);
        Due.is("lead(1, 1)", x.lead(1, 1), 1);
        Due.is("man(0, 1)", x.man(0, 1), 1);
        Due.is("about(8)", x.about(8), 3);
    }

    private static void hour() {
        Due.edge("12: who is caught, as bits: nobody", () -> Due.is("hour()", new HoundLicence().hour(), 0));
        Due.edge("12: who is caught, as bits: all that there can be", ActsEdgesTest::hourCatchesAll);
        Due.edge("12, AN HOUR: each MAN on its STREET", ActsEdgesTest::hourOnItsStreet);
        Due.edge("12, AN HOUR: is a BACHELOR, or is not leashed and sings", ActsEdgesTest::hourWhoIsCaught);
        Due.edge("12, AN HOUR: or is not leashed while the HOUR is LATE", ActsEdgesTest::hourWhileLate);
        Due.edge("12, Terms: An HOUR is LATE, if it is LEASH or more", ActsEdgesTest::hourFirstLate);
        Due.edge("12, Terms: what is left of it by 12", ActsEdgesTest::hourLateBegunAgain);
        Due.edge("12, Terms: what is left of t by 4", ActsEdgesTest::hourRoundBegunAgain);
        Due.edge("12, AN HOUR: its DOG pays 2 BONES", ActsEdgesTest::hourBones);
        Due.edge("12, AN HOUR: THE HOUR is one more", ActsEdgesTest::hourIsOneMore);
        Due.edge("12: at most 512 calls: the last of them", ActsEdgesTest::hourByHourToTheLastCall);
    }

    private static void hourCatchesAll() {
        HoundLicence x = Due.under("L120000D003D001M001M001M001M-00M101");
        Due.is("hour()", x.hour(), 31);
        Due.is("about(6)", x.about(6), 31);
        Due.is("hour() of nobody left", x.hour(), 0);
    }

    private static void hourOnItsStreet() {
        for (int street = 0; street < 5; street++) {
            HoundLicence x = Due.under("L12" + ("" + street).repeat(4) + "M-00M-10M-20M-30M-40");
            Due.is("hour() with THE WARDEN on " + street, x.hour(), 1 << street);
        }
    }

    private static void hourWhoIsCaught() {
        HoundLicence x = Due.under("L120000D002D002M000M001M-00M-01M101");
        x.leash(4);
        Due.is("hour(): not LATE", x.hour(), 2 + 4 + 8);
        HoundLicence y = Due.under("L000000D002D002M000M001M-00M100M101");
        y.leash(3);
        y.leash(4);
        Due.is("hour(): LATE", y.hour(), 1 + 2 + 4);
    }

    private static void hourWhileLate() {
        HoundLicence x = Due.under("L010000D003M000M000M000");
        x.leash(1);
        Due.is("hour() ahead of it", x.hour(), 0);
        Due.is("hour() in it", x.hour(), 1 + 4);
    }

    private static void hourFirstLate() {
        for (int leash = 0; leash <= 12; leash++) {
            HoundLicence x = Due.under("L" + leash / 10 + leash % 10 + "0000D001M000");
            for (int hour = 0; hour < leash; hour++) {
                Due.is("hour() " + hour + " by LEASH " + leash, x.hour(), 0);
            }
            Due.is("hour() " + leash + " by LEASH " + leash, x.hour(), leash == 12 ? 0 : 1);
        }
    }

    private static void hourLateBegunAgain() {
        for (int leash = 0; leash <= 12; leash++) {
            HoundLicence x = Due.under("L" + leash / 10 + leash % 10 + "0000D001M000");
            x.leash(0);
            Due.hours(x, 12);
            x.leash(0);
            for (int hour = 12; hour < 12 + leash; hour++) {
                Due.is("hour() " + hour + " by LEASH " + leash, x.hour(), 0);
            }
            Due.is("hour() " + (12 + leash) + " by LEASH " + leash, x.hour(), leash == 12 ? 0 : 1);
        }
    }

    private static void hourRoundBegunAgain() {
        HoundLicence x = Due.under("L124321D003M001");
        x.leash(0);
        Due.hours(x, 3);
        Due.is("about(4) at 3", x.about(4), 1);
        x.leash(0);
        Due.is("hour() 3", x.hour(), 0);
        Due.is("about(4) at 4", x.about(4), 4);
        x.lead(0, 2);
        Due.is("hour() 4", x.hour(), 1);
    }

    private static void hourBones() {
        HoundLicence x = Due.under("L120000D003D003M001M001M101M-00M-01");
        Due.is("hour()", x.hour(), 31);
        Due.is("dog(0, 4)", x.dog(0, 4), 4);
        Due.is("dog(1, 4)", x.dog(1, 4), 2);
        Due.is("about(7)", x.about(7), 6);
        Due.hours(x, 3);
        Due.is("about(7) while they are IMPOUNDED", x.about(7), 6);
        x.hour();
        Due.is("about(7) when they are caught again", x.about(7), 12);
    }

    private static void hourIsOneMore() {
        HoundLicence x = new HoundLicence();
        for (int hour = 0; hour < 60; hour++) {
            Due.is("about(3)", x.about(3), hour);
            x.hour();
        }
        Due.is("about(3)", x.about(3), 60);
    }

    private static void hourByHourToTheLastCall() {
        HoundLicence x = new HoundLicence();
        Due.hours(x, 511);
        Due.is("about(3) as the 512th call", x.about(3), 511);
        HoundLicence y = Due.under("L120000D003D003M001M001M001M101M101");
        int calls = 36;
        while (calls < 511) {
            y.hour();
            calls++;
        }
        Due.is("about(7) as the 512th call, behind 475 HOURS", y.about(7), 119 * 10);
    }

    private static void hourOfTheImpounded() {
        Due.edge("12, AN HOUR: it is IMPOUNDED for 3 HOURS", ActsEdgesTest::hourThree);
        Due.edge("12, AN HOUR: Those that were IMPOUNDED ahead of this HOUR have an HOUR less", ActsEdgesTest::hourLess);
        Due.edge("12, AN HOUR: who has none left is free, on the STREET of its DOG", ActsEdgesTest::hourFree);
        Due.edge("12, AN HOUR: (a BACHELOR: where it was)", ActsEdgesTest::hourFreeBachelor);
        Due.edge("12, AN HOUR: and is not caught on this HOUR", ActsEdgesTest::hourNotOnThis);
        Due.edge("12, AN HOUR: that is not IMPOUNDED", ActsEdgesTest::hourNotTwice);
    }

    private static void hourThree() {
        HoundLicence x = Due.under("L120123D001M001");
        Due.row("man(0, 4) behind # more", hour -> {
            x.hour();
            return x.man(0, 4);
        }, 3, 2, 1, 0, 3, 2, 1, 0);
    }

    private static void hourLess() {
        HoundLicence x = Due.under("L120120M-00M-10M-20");
        int[][] left = {{3, 0, 0}, {2, 3, 0}, {1, 2, 3}, {0, 1, 2}, {3, 0, 1}, {2, 3, 0}, {1, 2, 3}};
        for (int[] due : left) {
            x.hour();
            Due.row("man(#, 4) at " + x.about(3), man -> x.man(man, 4), due);
        }
    }

    private static void hourFree() {
        HoundLicence x = impoundedFor(1);
        x.lead(0, 2);
        x.lead(0, 2);
        Due.is("man(0, 1) while it is IMPOUNDED", x.man(0, 1), 0);
        x.hour();
        Due.is("man(0, 1)", x.man(0, 1), 3);
        Due.is("about(6)", x.about(6), 0);
        Due.is("man(0, 0)", x.man(0, 0), 0);
        Due.is("man(0, 3)", x.man(0, 3), 0);
    }

    private static void hourFreeBachelor() {
        HoundLicence x = Due.under("L123333D003M-30");
        Due.hours(x, 4);
        Due.is("man(0, 4)", x.man(0, 4), 0);
        Due.is("man(0, 1)", x.man(0, 1), 3);
        Due.is("man(0, 0)", x.man(0, 0), Due.NONE);
        Due.is("hour()", x.hour(), 1);
    }

    private static void hourNotOnThis() {
        HoundLicence x = Due.under("L121230D101M011M-10");
        Due.is("hour() on 1", x.hour(), 3);
        x.lead(0, 2);
        Due.is("hour() on 2", x.hour(), 0);
        Due.is("hour() on 3", x.hour(), 0);
        Due.is("hour() on 0, where it is free", x.hour(), 0);
        Due.is("man(0, 4)", x.man(0, 4), 0);
        Due.is("man(0, 1)", x.man(0, 1), 0);
        Due.is("hour() on 1, where the other is free", x.hour(), 2);
        HoundLicence y = impoundedFor(1);
        Due.is("hour() where THE WARDEN stays", y.hour(), 0);
        Due.is("the HOUR behind it", y.hour(), 1);
    }

    private static void hourNotTwice() {
        HoundLicence x = Due.under("L000000D001M001");
        Due.row("hour() #", hour -> x.hour(), 1, 0, 0, 0, 1, 0, 0, 0, 1);
        Due.is("about(7)", x.about(7), 6);
    }

    private static void undo() {
        Due.edge("13: LATE: there is none", ActsEdgesTest::undoOfNone);
        Due.edge("13: how many are left", ActsEdgesTest::undoLeft);
        Due.edge("13, ACTS: 14 at most; when it is full, the first one is forgotten", ActsEdgesTest::undoOfFourteen);
        Due.edge("13, ACTS: LED, LEASHED, GIVEN, HOURS", ActsEdgesTest::undoOfEach);
        Due.edge("13, ACTS: and nothing else", ActsEdgesTest::undoOfNothingElse);
        Due.edge("13: the last one: an ACT behind it is the last one then", ActsEdgesTest::undoAndOn);
    }

    private static void undoOfNone() {
        Twins.refused("undo() on a new object", HoundLicence::new, HoundLicence::undo, Due.LATE);
        Twins.refused("undo() behind ordain()", () -> {
            HoundLicence x = Twins.lively();
            x.ordain();
            return x;
        }, HoundLicence::undo, Due.LATE);
        Twins.refused("undo() behind again()", () -> {
            HoundLicence x = Twins.lively();
            x.again(1);
            return x;
        }, HoundLicence::undo, Due.LATE);
        Twins.refused("undo() behind the last undo()", () -> {
            HoundLicence x = Twins.lively();
            while (x.about(8) > 0) {
                x.undo();
            }
            return x;
        }, HoundLicence::undo, Due.LATE);
    }

    private static void undoLeft() {
        HoundLicence x = Twins.lively();
        Due.is("about(8)", x.about(8), 7);
        Due.row("undo() #", i -> x.undo(), 6, 5, 4, 3, 2, 1, 0, Due.LATE);
    }

    private static void undoOfFourteen() {
        for (int acts = 13; acts <= 16; acts++) {
            HoundLicence x = Due.under("L120000D001");
            for (int act = 1; act <= acts; act++) {
                x.hour();
                Due.is("about(8) behind " + act, x.about(8), Math.min(act, 14));
            }
            for (int left = Math.min(acts, 14) - 1; left >= 0; left--) {
                Due.is("undo() of " + acts, x.undo(), left);
                Due.is("about(3)", x.about(3), left + Math.max(acts - 14, 0));
            }
            Due.is("undo() of " + acts + ", once more", x.undo(), Due.LATE);
            Due.is("about(3) of " + acts, x.about(3), Math.max(acts - 14, 0));
        }
    }

    private static HoundLicence met() {
        return Due.under("L000000D003D003M001M000M-10");
    }

    private static void undoOf(String call, Twins.Asks act, long due) {
        HoundLicence x = met();
        Due.is(call, act.of(x), due);
        Due.is("undo() of " + call, x.undo(), 0);
        Due.same("undo() of " + call, State.all(x), State.all(met()));
        HoundLicence y = met();
        act.of(y);
        y.undo();
        Due.same("behind undo() of " + call, State.ahead(y), State.ahead(met()));
    }

    private static void undoOfEach() {
        undoOf("lead(0, 2)", x -> x.lead(0, 2), 4);
        undoOf("leash(1)", x -> x.leash(1), 1);
        undoOf("give(0, 1)", x -> x.give(0, 1), 0);
        undoOf("hour()", HoundLicence::hour, 3);
        HoundLicence x = Due.under("L120000D002M001");
        Due.hours(x, 3);
        x.lead(0, 1);
        x.hour();
        Due.is("man(0, 1) when it is free", x.man(0, 1), 1);
        x.undo();
        Due.is("man(0, 1)", x.man(0, 1), 0);
        Due.is("man(0, 4)", x.man(0, 4), 1);
    }

    private static void undoOfNothingElse() {
        HoundLicence x = met();
        x.lead(0, 1);
        x.write(65);
        x.see(0, 0, 0);
        x.seed(7);
        x.keep(1);
        x.days(3);
        long seed = x.seed(7);
        x.seed(seed);
        Due.is("about(8)", x.about(8), 1);
        Due.is("undo()", x.undo(), 0);
        Due.is("bytes", x.about(10), 28);
        Due.is("SEEN", x.about(9), 1);
        Due.is("THE SEED", x.seed(0), seed);
        Due.is("again(1)", x.again(1), 0);
        Due.is("dog(0, 0) as it was kept", x.dog(0, 0), 1);
    }

    private static void undoAndOn() {
        HoundLicence x = Due.under("L120000D001");
        x.lead(0, 1);
        x.lead(0, 1);
        Due.is("undo()", x.undo(), 1);
        Due.is("lead(0, 2)", x.lead(0, 2), 0);
        Due.is("undo()", x.undo(), 1);
        Due.is("dog(0, 0)", x.dog(0, 0), 1);
        Due.is("undo()", x.undo(), 0);
        Due.is("dog(0, 0)", x.dog(0, 0), 0);
    }
}
