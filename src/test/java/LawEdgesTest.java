/** The edges that promises 1 to 8 name, each with a test of its own. FAULT has FaultEdgesTest. */
public final class LawEdgesTest {
    /** As many DOGS, MEN and parents as there can be. */
    private static final String MOST = "L120000D001D001D001D003M301M301M301M-01M-01P01P12P23";

    public static void main(String[] args) {
        newObject();
        write();
        wipe();
        ordain();
        about();
        dog();
        man();
        Due.end();
    }

    private static void newObject() {
        Due.edge("1: Nobody", LawEdgesTest::nobody);
        Due.edge("1, Terms: At first LEASH is 12", LawEdgesTest::firstLeash);
        Due.edge("1, Terms: At first THE ROUND stays on STREET 0", LawEdgesTest::firstRound);
        Due.edge("1, Terms: no ACTS, nothing SEEN (none at first), no bytes", LawEdgesTest::firstRows);
        Due.edge("1, SLOTS: none were kept", LawEdgesTest::firstSlots);
        Due.edge("1, DAYS: THE SEED is 0 at first", () -> Due.is("seed(1)", new HoundLicence().seed(1), 0));
        Due.edge("1: another object has nothing to do with it", LawEdgesTest::oneBesideAnother);
    }

    private static void nobody() {
        HoundLicence x = new HoundLicence();
        Due.is("about(0)", x.about(0), 0);
        Due.is("about(1)", x.about(1), 0);
        Due.is("dog(0, 0)", x.dog(0, 0), Due.UNKNOWN);
        Due.is("man(0, 0)", x.man(0, 0), Due.UNKNOWN);
        Due.is("lead(0, 1)", x.lead(0, 1), Due.UNKNOWN);
        Due.is("leash(0)", x.leash(0), Due.UNKNOWN);
        Due.is("give(0, 0)", x.give(0, 0), Due.UNKNOWN);
        Due.is("routes(0, 1, 0, 0)", x.routes(0, 1, 0, 0), Due.UNKNOWN);
        Due.is("aired(0)", x.aired(0), Due.UNKNOWN);
        Due.is("heir(0)", x.heir(0), Due.UNKNOWN);
        Due.is("see(0, 0, 0)", x.see(0, 0, 0), Due.UNKNOWN);
        Due.is("sure(0)", x.sure(0), Due.UNKNOWN);
        Due.is("chance(0, 0, true)", x.chance(0, 0, true), Due.UNKNOWN);
        Due.is("hour()", x.hour(), 0);
        Due.is("caught(24)", x.caught(24), 0);
        Due.is("pays(0, 24)", x.pays(0, 24), 0);
        Due.is("walks()", x.walks(), 1);
        Due.is("days(30)", x.days(30), 0);
    }

    private static void firstLeash() {
        Due.is("about(2)", new HoundLicence().about(2), 12);
    }

    private static void firstRound() {
        HoundLicence x = new HoundLicence();
        for (int hour = 0; hour <= 12; hour++) {
            Due.is("about(3)", x.about(3), hour);
            Due.is("about(4) at " + hour, x.about(4), 0);
            x.hour();
        }
    }

    private static void firstRows() {
        HoundLicence x = new HoundLicence();
        for (int what = 5; what <= 10; what++) {
            Due.is("about(" + what + ")", x.about(what), 0);
        }
        Due.is("undo()", x.undo(), Due.LATE);
        Due.is("unsee()", x.unsee(), 0);
        Due.is("wipe()", x.wipe(), 0);
    }

    private static void firstSlots() {
        HoundLicence x = new HoundLicence();
        Due.is("again(0)", x.again(0), Due.LATE);
        Due.is("again(1)", x.again(1), Due.LATE);
    }

    private static void oneBesideAnother() {
        HoundLicence x = new HoundLicence();
        String before = State.all(x);
        Twins.lively();
        Due.same("behind another's calls", State.all(x), before);
        Due.same("a later one", State.all(new HoundLicence()), before);
    }

    private static void write() {
        Due.edge("2: A byte (0 .. 255)", LawEdgesTest::firstAndLastByte);
        Due.edge("2: BAD", LawEdgesTest::noByte);
        Due.edge("2: FULL: there are 60", LawEdgesTest::full);
        Due.edge("2: BAD is told ahead of FULL", LawEdgesTest::badAheadOfFull);
        Due.edge("2: comes behind THE TEXT", LawEdgesTest::comesBehind);
    }

    private static HoundLicence withBytes(int bytes) {
        HoundLicence x = Twins.lively();
        while (x.about(10) < bytes) {
            x.write('M');
        }
        return x;
    }

    private static void firstAndLastByte() {
        HoundLicence x = new HoundLicence();
        Due.is("write(0)", x.write(0), 1);
        Due.is("write(255)", x.write(255), 2);
        Due.is("about(10)", x.about(10), 2);
    }

    private static void noByte() {
        for (int letter : new int[] {-1, 256, 256 + 'L', 'L' - 256, Integer.MIN_VALUE, Integer.MAX_VALUE}) {
            Twins.refused("write(" + letter + ")", x -> x.write(letter), Due.BAD);
        }
    }

    private static void full() {
        Due.is("write(65) at 58", withBytes(58).write(65), 59);
        Due.is("write(65) at 59", withBytes(59).write(65), 60);
        for (int letter : new int[] {0, 65, 255}) {
            Twins.refused("write(" + letter + ") at 60", () -> withBytes(60), x -> x.write(letter), Due.FULL);
        }
    }

    private static void badAheadOfFull() {
        Twins.refused("write(-1) at 60", () -> withBytes(60), x -> x.write(-1), Due.BAD);
        Twins.refused("write(256) at 60", () -> withBytes(60), x -> x.write(256), Due.BAD);
    }

    private static void comesBehind() {
        HoundLicence x = Due.written("L00000");
        Due.is("fault() of what is open", x.fault(), 6);
        Due.is("write(48)", x.write('0'), 7);
        Due.is("fault() of what is whole", x.fault(), Due.NONE);
        Due.is("write(48)", x.write('0'), 8);
        Due.is("fault() of one byte more", x.fault(), 7);
    }

    private static void wipe() {
        Due.edge("3: how long it was: empty", () -> Due.is("wipe()", new HoundLicence().wipe(), 0));
        Due.edge("3: how long it was: full", () -> Due.is("wipe()", withBytes(60).wipe(), 60));
        Due.edge("3: THE TEXT is empty", LawEdgesTest::emptyText);
        Due.edge("3: THE TEXT alone is empty", LawEdgesTest::nothingElseWiped);
    }

    private static void emptyText() {
        HoundLicence x = withBytes(60);
        x.wipe();
        Due.is("about(10)", x.about(10), 0);
        Due.is("wipe() again", x.wipe(), 0);
        Due.is("fault()", x.fault(), 0);
        Due.is("ordain()", x.ordain(), Due.LATE);
        for (int length = 1; length <= 60; length++) {
            Due.is("write(76)", x.write(76), length);
        }
        Due.is("write(76) at 60", x.write(76), Due.FULL);
    }

    private static void nothingElseWiped() {
        Twins.unchanged("wipe() and the same text", Twins::lively, x -> {
            x.wipe();
            Due.write(x, "L051203D002D112D313D441M001M000M110M-40P01P12M-01");
            return 0;
        });
    }

    private static void ordain() {
        Due.edge("5: LATE: a FAULT: its length", LawEdgesTest::lateWhileOpen);
        Due.edge("5: LATE: a FAULT: the first byte", () -> lateOf("M001"));
        Due.edge("5: LATE: a FAULT: the last byte", () -> lateOf("L051203D002M002"));
        Due.edge("5: 10 times DOGS, and MEN: nobody", LawEdgesTest::nobodyOrdained);
        Due.edge("5: 10 times DOGS, and MEN: as many as there can be", LawEdgesTest::mostOrdained);
        Due.edge("5, PARTS: numbered as they are told, each kind for itself", LawEdgesTest::numbered);
        Due.edge("5: THE TEXT itself stays", LawEdgesTest::textStays);
        Due.edge("5: no ACTS", LawEdgesTest::noActs);
        Due.edge("5: what was kept is gone", LawEdgesTest::nothingKept);
        Due.edge("5: SEEN stays", LawEdgesTest::seenStays);
        Due.edge("5: THE SEED stays", LawEdgesTest::seedStays);
        Due.edge("5, Terms: THE HOUR is 0", LawEdgesTest::hourIsNought);
        Due.edge("5, Terms: nobody is leashed or IMPOUNDED, no BONES are paid", LawEdgesTest::nothingHappened);
        Due.edge("5: THE TEXT is THE LAW, all of it", LawEdgesTest::nothingOfTheLawBefore);
    }

    private static void lateWhileOpen() {
        String law = "L051203D002M001";
        for (int length = 0; length < law.length(); length++) {
            if (length != 7 && length != 11) {
                lateOf(law.substring(0, length));
            }
        }
    }

    private static void lateOf(String text) {
        Twins.refused("ordain() of " + text, () -> {
            HoundLicence x = Twins.lively();
            x.wipe();
            Due.write(x, text);
            return x;
        }, HoundLicence::ordain, Due.LATE);
    }

    private static void nobodyOrdained() {
        HoundLicence x = Due.written("L000000");
        Due.is("ordain()", x.ordain(), 0);
        Due.is("about(2)", x.about(2), 0);
        Due.is("dog(0, 0)", x.dog(0, 0), Due.UNKNOWN);
        Due.is("man(0, 0)", x.man(0, 0), Due.UNKNOWN);
    }

    private static void mostOrdained() {
        Due.is("ordain() of 4 and 5", Due.written(MOST).ordain(), 45);
        Due.is("ordain() of 4 and 0", Due.written(MOST.substring(0, 23)).ordain(), 40);
        Due.is("ordain() of 0 and 5", Due.written("L120000M-01M-01M-01M-01M-01").ordain(), 5);
        Due.is("ordain() of 1 and 0", Due.written("L120000D001").ordain(), 10);
        Due.is("ordain() of 0 and 1", Due.written("L120000M-01").ordain(), 1);
    }

    private static void numbered() {
        HoundLicence x = Due.under("L120000M-40D012M000D121M-30P10M110D231P02");
        Due.row("dog(#, 1)", dog -> x.dog(dog, 1), 1, 2, 3, Due.UNKNOWN);
        Due.row("dog(#, 5)", dog -> x.dog(dog, 5), 1, Due.NONE, 0);
        Due.row("man(#, 1)", man -> x.man(man, 1), 4, 0, 3, 1, Due.UNKNOWN);
        Due.row("man(#, 0)", man -> x.man(man, 0), Due.NONE, 0, Due.NONE, 1);
    }

    private static void textStays() {
        HoundLicence x = Due.written(MOST);
        x.ordain();
        Due.is("about(10)", x.about(10), 52);
        Due.is("fault()", x.fault(), Due.NONE);
        Due.is("ordain() again", x.ordain(), 45);
        Due.is("write(0)", x.write(0), 53);
        Due.is("fault()", x.fault(), 52);
    }

    private static HoundLicence ordainedAgain() {
        HoundLicence x = Twins.lively();
        Due.is("ordain()", x.ordain(), 45);
        return x;
    }

    private static void noActs() {
        HoundLicence x = ordainedAgain();
        Due.is("about(8)", x.about(8), 0);
        Due.is("undo()", x.undo(), Due.LATE);
        x.hour();
        Due.is("about(8) behind an ACT", x.about(8), 1);
        Due.is("undo()", x.undo(), 0);
        Due.is("undo()", x.undo(), Due.LATE);
    }

    private static void nothingKept() {
        HoundLicence x = ordainedAgain();
        Due.is("again(0)", x.again(0), Due.LATE);
        Due.is("again(1)", x.again(1), Due.LATE);
        Due.is("keep(1)", x.keep(1), 0);
        Due.is("again(0) still", x.again(0), Due.LATE);
        Due.is("again(1)", x.again(1), 0);
    }

    private static void seenStays() {
        HoundLicence x = ordainedAgain();
        Due.is("about(9)", x.about(9), 2);
        Due.is("sure(0), SEEN on 3 at 1", x.sure(0), Due.NONE);
        Due.is("unsee()", x.unsee(), 2);
    }

    private static void seedStays() {
        Due.is("seed(0)", ordainedAgain().seed(0), 77);
    }

    private static void hourIsNought() {
        HoundLicence x = ordainedAgain();
        Due.is("about(3)", x.about(3), 0);
        Due.is("about(4)", x.about(4), 1);
    }

    private static void nothingHappened() {
        HoundLicence x = Due.under("L000000D001D011M000M100");
        x.leash(0);
        Due.is("hour()", x.hour(), 2);
        x.lead(1, 1);
        Due.is("ordain()", x.ordain(), 22);
        Due.is("about(5)", x.about(5), 0);
        Due.is("about(6)", x.about(6), 0);
        Due.is("about(7)", x.about(7), 0);
        Due.is("dog(1, 4)", x.dog(1, 4), 0);
        Due.is("man(1, 4)", x.man(1, 4), 0);
        Due.is("dog(1, 0)", x.dog(1, 0), 0);
        Due.is("man(1, 1)", x.man(1, 1), 0);
        Due.is("hour()", x.hour(), 3);
    }

    private static void nothingOfTheLawBefore() {
        HoundLicence x = Due.under("L054321D093D182D271D363M001M111P01P12P23");
        x.wipe();
        Due.write(x, "L100000D401M-30");
        Due.is("ordain()", x.ordain(), 11);
        HoundLicence y = Due.under("L100000D401M-30");
        Due.same("as on a new object", State.all(x), State.all(y));
        x.wipe();
        Due.write(x, "L120000D001D001D001D001");
        Due.is("ordain()", x.ordain(), 40);
        for (int dog = 0; dog < 4; dog++) {
            Due.is("dog(" + dog + ", 5)", x.dog(dog, 5), Due.NONE);
            Due.is("dog(" + dog + ", 3)", x.dog(dog, 3), 0);
        }
    }

    private static void about() {
        Due.edge("6: BAD", LawEdgesTest::aboutRefused);
        Due.edge("6: what = 0 .. 10, with as much as there can be", LawEdgesTest::aboutMost);
        Due.edge("6: who is leashed (5: bits)", LawEdgesTest::aboutLeashed);
        Due.edge("6: IMPOUNDED (6: bits), BONES of all (7)", LawEdgesTest::aboutImpounded);
        Due.edge("6: where THE WARDEN is (4), begun again behind the fourth STREET", LawEdgesTest::aboutWarden);
        Due.edge("6: ACTS (8): 14 at most", LawEdgesTest::aboutActs);
    }

    private static void aboutRefused() {
        for (int what : new int[] {-1, 11, Integer.MIN_VALUE, Integer.MAX_VALUE}) {
            Twins.refused("about(" + what + ")", x -> x.about(what), Due.BAD);
            Due.is("about(" + what + ") of nobody", new HoundLicence().about(what), Due.BAD);
        }
    }

    private static void aboutMost() {
        HoundLicence x = Due.under(MOST);
        for (int i = 0; i < 6; i++) {
            x.see(4, 4, 11);
        }
        Due.row("about(#)", x::about, 4, 5, 12, 0, 0, 0, 0, 0, 0, 6, 52);
        Due.is("LEASH 00", Due.under("L004444").about(2), 0);
        Due.is("THE WARDEN on 4", Due.under("L004444").about(4), 4);
    }

    private static void aboutLeashed() {
        HoundLicence x = Due.under("L120000D003D002M000M000M000M100M100");
        for (int man = 0; man < 5; man++) {
            x.leash(man);
            Due.is("about(5) with 0 .. " + man, x.about(5), (2 << man) - 1);
        }
        x.leash(0);
        Due.is("about(5) without 0", x.about(5), 30);
    }

    private static void aboutImpounded() {
        HoundLicence x = Due.under(MOST);
        Due.is("hour()", x.hour(), 31);
        Due.is("about(6)", x.about(6), 31);
        Due.is("about(7)", x.about(7), 6);
        Due.hours(x, 2);
        Due.is("about(6) with an HOUR left", x.about(6), 31);
        x.hour();
        Due.is("about(6) when they are free", x.about(6), 0);
        Due.is("about(7)", x.about(7), 6);
    }

    private static void aboutWarden() {
        HoundLicence x = Due.under("L121234");
        for (int hour = 0; hour < 14; hour++) {
            Due.is("about(4) at " + hour, x.about(4), new int[] {1, 2, 3, 4}[hour % 4]);
            Due.is("about(3)", x.about(3), hour);
            x.hour();
        }
    }

    private static void aboutActs() {
        HoundLicence x = new HoundLicence();
        for (int hour = 0; hour < 17; hour++) {
            Due.is("about(8) behind " + hour, x.about(8), Math.min(hour, 14));
            x.hour();
        }
        Due.is("about(3)", x.about(3), 17);
    }

    private static void dog() {
        Due.edge("7: UNKNOWN", LawEdgesTest::dogUnknown);
        Due.edge("7: BAD", LawEdgesTest::dogBad);
        Due.edge("7: UNKNOWN is told ahead of BAD", LawEdgesTest::dogUnknownAheadOfBad);
        Due.edge("7: the last DOG that there can be", LawEdgesTest::dogLast);
        Due.edge("7: least and most of STREET, RANK, how many", LawEdgesTest::dogLeastAndMost);
        Due.edge("7: whom it keeps (3: bits): nobody, three, who is IMPOUNDED", LawEdgesTest::dogKeeps);
        Due.edge("7: BONES it paid (4): its own alone", LawEdgesTest::dogBones);
        Due.edge("7: its parent (5; NONE)", LawEdgesTest::dogParent);
    }

    private static void dogUnknown() {
        for (int dog : new int[] {-1, 4, 5, Integer.MIN_VALUE, Integer.MAX_VALUE}) {
            Twins.refused("dog(" + dog + ", 0)", x -> x.dog(dog, 0), Due.UNKNOWN);
        }
        for (int dogs = 0; dogs < 4; dogs++) {
            HoundLicence x = Due.under("L120000" + "D001".repeat(dogs));
            Due.is("dog(" + dogs + ", 0)", x.dog(dogs, 0), Due.UNKNOWN);
            Due.is("dog(" + (dogs - 1) + ", 2)", x.dog(dogs - 1, 2), dogs == 0 ? Due.UNKNOWN : 1);
        }
    }

    private static void dogBad() {
        for (int what : new int[] {-1, 6, Integer.MIN_VALUE, Integer.MAX_VALUE}) {
            Twins.refused("dog(0, " + what + ")", x -> x.dog(0, what), Due.BAD);
            Twins.refused("dog(3, " + what + ")", x -> x.dog(3, what), Due.BAD);
        }
    }

    private static void dogUnknownAheadOfBad() {
        Twins.refused("dog(4, 6)", x -> x.dog(4, 6), Due.UNKNOWN);
        Twins.refused("dog(-1, -1)", x -> x.dog(-1, -1), Due.UNKNOWN);
    }

    private static void dogLast() {
        HoundLicence x = Due.under(MOST);
        Due.row("dog(3, #)", what -> x.dog(3, what), 0, 0, 3, 7, 0, 2, Due.BAD);
    }

    private static void dogLeastAndMost() {
        HoundLicence x = Due.under("L120000D001D493");
        Due.row("dog(0, #)", what -> x.dog(0, what), 0, 0, 1, 0, 0, Due.NONE);
        Due.row("dog(1, #)", what -> x.dog(1, what), 4, 9, 3, 0, 0, Due.NONE);
    }

    private static void dogKeeps() {
        HoundLicence x = Due.under("L121111D013D011M000M-11M001M-01M001");
        Due.is("dog(0, 3)", x.dog(0, 3), 1 + 4 + 16);
        Due.is("dog(1, 3)", x.dog(1, 3), 0);
        x.lead(0, 1);
        Due.is("hour()", x.hour(), 2 + 4 + 16);
        Due.is("dog(0, 3) with IMPOUNDED ones", x.dog(0, 3), 1 + 4 + 16);
    }

    private static void dogBones() {
        HoundLicence x = Due.under("L120000D003D003M001M101M101M-01");
        Due.is("hour()", x.hour(), 15);
        Due.is("dog(0, 4)", x.dog(0, 4), 2);
        Due.is("dog(1, 4)", x.dog(1, 4), 4);
        Due.is("about(7)", x.about(7), 6);
    }

    private static void dogParent() {
        HoundLicence x = Due.under("L120000D001D001D001P02P21");
        Due.is("dog(0, 5)", x.dog(0, 5), Due.NONE);
        Due.is("dog(1, 5)", x.dog(1, 5), 2);
        Due.is("dog(2, 5)", x.dog(2, 5), 0);
    }

    private static void man() {
        Due.edge("8: UNKNOWN", LawEdgesTest::manUnknown);
        Due.edge("8: BAD", LawEdgesTest::manBad);
        Due.edge("8: UNKNOWN is told ahead of BAD", LawEdgesTest::manUnknownAheadOfBad);
        Due.edge("8: the last MAN that there can be", LawEdgesTest::manLast);
        Due.edge("8: its DOG (0; NONE: a BACHELOR)", LawEdgesTest::manOfDogOrNone);
        Due.edge("8: its STREET (1; IMPOUNDED: where it was caught)", LawEdgesTest::manWhereCaught);
        Due.edge("8: for how many HOURS it is IMPOUNDED (4; 0: it is not)", LawEdgesTest::manHoursLeft);
        Due.edge("8: 1 if it is leashed (3)", LawEdgesTest::manLeashed);
    }

    private static void manUnknown() {
        for (int man : new int[] {-1, 4, 5, 32, Integer.MIN_VALUE, Integer.MAX_VALUE}) {
            Twins.refused("man(" + man + ", 0)", x -> x.man(man, 0), Due.UNKNOWN);
        }
        for (int men = 0; men < 5; men++) {
            HoundLicence x = Due.under("L120000" + "M-20".repeat(men));
            Due.is("man(" + men + ", 1)", x.man(men, 1), Due.UNKNOWN);
            Due.is("man(" + (men - 1) + ", 1)", x.man(men - 1, 1), men == 0 ? Due.UNKNOWN : 2);
        }
        Due.is("man(5, 1) of five", Due.under(MOST).man(5, 1), Due.UNKNOWN);
    }

    private static void manBad() {
        for (int what : new int[] {-1, 5, Integer.MIN_VALUE, Integer.MAX_VALUE}) {
            Twins.refused("man(0, " + what + ")", x -> x.man(0, what), Due.BAD);
            Twins.refused("man(3, " + what + ")", x -> x.man(3, what), Due.BAD);
        }
    }

    private static void manUnknownAheadOfBad() {
        Twins.refused("man(4, 5)", x -> x.man(4, 5), Due.UNKNOWN);
        Twins.refused("man(-1, -1)", x -> x.man(-1, -1), Due.UNKNOWN);
    }

    private static void manLast() {
        HoundLicence x = Due.under("L120000D003D003D003D493M-00M-00M-00M-00M341");
        Due.row("man(4, #)", what -> x.man(4, what), 3, 4, 1, 0, 0, Due.BAD);
    }

    private static void manOfDogOrNone() {
        HoundLicence x = Due.under("L120000D001D001M000M-00M100");
        Due.is("man(0, 0)", x.man(0, 0), 0);
        Due.is("man(1, 0)", x.man(1, 0), Due.NONE);
        Due.is("man(2, 0)", x.man(2, 0), 1);
    }

    private static void manWhereCaught() {
        HoundLicence x = Due.under("L124444D401M041");
        Due.is("hour()", x.hour(), 1);
        x.lead(0, 1);
        for (int left = 3; left > 0; left--) {
            Due.is("man(0, 1) with " + left + " left", x.man(0, 1), 4);
            x.hour();
        }
        Due.is("man(0, 1) when it is free", x.man(0, 1), 0);
    }

    private static void manHoursLeft() {
        HoundLicence x = Due.under("L124444M-40M-30");
        int[] due = {0, 3, 2, 1, 0, 3, 2};
        for (int hour = 0; hour < due.length; hour++) {
            Due.is("man(0, 4) at " + hour, x.man(0, 4), due[hour]);
            Due.is("man(1, 4) at " + hour, x.man(1, 4), 0);
            x.hour();
        }
    }

    private static void manLeashed() {
        HoundLicence x = Due.under("L120000D002M000M001");
        Due.is("man(1, 3)", x.man(1, 3), 0);
        x.leash(1);
        Due.is("man(1, 3)", x.man(1, 3), 1);
        Due.is("man(0, 3)", x.man(0, 3), 0);
        Due.is("man(1, 2)", x.man(1, 2), 1);
        Due.is("man(0, 2)", x.man(0, 2), 0);
    }
}
