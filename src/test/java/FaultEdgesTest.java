/** The edges that promise 4 names with LAW and FAULT: of each place in a text, each of the 256 bytes. */
public final class FaultEdgesTest {
    private static final String HEAD = "L120123";
    private static final String STREETS = "01234", FIGURES = "0123456789", YES_NO = "01";
    private static final String MOST = "L120000D001D001D001D001M-00M-00M-00M-00M-00P01P12P23";

    public static void main(String[] args) {
        Due.edge("4: NONE; its length, if it is only not at its end", FaultEdgesTest::cutOff);
        Due.edge("4: the first byte, whatever came behind it", FaultEdgesTest::firstOfTwo);
        Due.edge("4: the first byte by which THE TEXT can be no LAW", FaultEdgesTest::firstByte);
        Due.edge("4: its length set aside", FaultEdgesTest::longest);
        head();
        dogs();
        men();
        parents();
        Due.edge("4: nothing is changed", () -> Twins.unchanged("fault()", Twins::lively, HoundLicence::fault));
        Due.end();
    }

    private static int faultOf(String text) {
        return Due.written(text).fault();
    }

    /** At the place behind a text these bytes are taken, and each other one is the fault, whatever comes behind. */
    private static void place(String ahead, String taken) {
        for (char c = 0; c < 256; c++) {
            String text = ahead + c;
            int fault = faultOf(text);
            if (taken.indexOf(c) >= 0) {
                Due.that(text + " is taken, not " + fault, fault == Due.NONE || fault == text.length());
            } else {
                Due.is("fault() of " + ahead + ", " + (int) c, fault, ahead.length());
                Due.is("fault() of " + ahead + ", " + (int) c + ", 000", faultOf(text + "000"), ahead.length());
            }
        }
    }

    private static void cutOff() {
        String[] parts = {"L094321", "D001", "M001", "D493", "M-41", "P01", "D232", "M-00", "M221", "P12"};
        String law = "";
        for (String part : parts) {
            for (int open = 0; open < part.length(); open++) {
                String text = law + part.substring(0, open);
                boolean whole = open == 0 && !law.isEmpty();
                Due.is("fault() of " + text, faultOf(text), whole ? Due.NONE : text.length());
            }
            law += part;
        }
        Due.is("fault() of " + law, faultOf(law), Due.NONE);
    }

    private static void firstOfTwo() {
        Due.is("two in the head", faultOf("L13555"), 2);
        Due.is("two parts", faultOf(HEAD + "D0X1D0X1"), 9);
        Due.is("a law behind it", faultOf("D" + HEAD), 0);
        Due.is("the same law behind a law", faultOf(HEAD + HEAD), 7);
    }

    private static void firstByte() {
        Due.is("an empty text", faultOf(""), 0);
        place("", "L");
        HoundLicence x = Due.written("\u00cc");
        Due.is("76 and 128 is no L", x.fault(), 0);
    }

    private static void longest() {
        Due.is("the longest law", faultOf(MOST), Due.NONE);
        place(MOST, "");
        HoundLicence x = Due.written(MOST + "D001M-00");
        Due.is("about(10)", x.about(10), 60);
        Due.is("fault() of a full text", x.fault(), 52);
        Due.is("60 of one byte", faultOf("L".repeat(60)), 1);
        Due.is("bytes that are the fault there, whole in their parts",
            Due.written(HEAD + "D001".repeat(13) + "P").fault(), 23);
    }

    private static void head() {
        Due.edge("Terms: LEASH (two figures, 00 .. 12)", () -> {
            place("L", "01");
            place("L0", FIGURES);
            place("L1", "012");
        });
        Due.edge("Terms: THE ROUND (four STREETS)", () -> {
            for (int told = 0; told < 4; told++) {
                place("L12" + "0".repeat(told), STREETS);
                place("L00" + "4".repeat(told), STREETS);
            }
        });
        Due.edge("Terms: then PARTS, none or more", () -> {
            Due.is("none", faultOf("L120000"), Due.NONE);
            place("L120000", "DM");
            place(HEAD + "D001", "DM");
            place(HEAD + "M-00", "DM");
            place(HEAD + "D001D001", "DMP");
        });
    }

    private static void dogs() {
        Due.edge("Terms: Dsrk: a DOG on STREET s", () -> place(HEAD + "D", STREETS));
        Due.edge("Terms: Dsrk: of RANK r (0 .. 9)", () -> place(HEAD + "D4", FIGURES));
        Due.edge("Terms: Dsrk: that keeps k MEN at most (1 .. 3)", () -> place(HEAD + "D49", "123"));
        Due.edge("Terms: DOGS (4 at most)", () -> {
            place(HEAD + "D001D001D001", "DMP");
            place(HEAD + "D001D001D001D001", "MP");
            place(HEAD + "D001D001D001D001M-00", "MP");
        });
    }

    private static void men() {
        Due.edge("Terms: Mdsx: d told ahead, or nobody (-)", FaultEdgesTest::keepers);
        Due.edge("Terms: Mdsx: that keeps fewer than it can", FaultEdgesTest::keepersRoom);
        Due.edge("Terms: Mdsx: nobody, on STREET s", () -> {
            place(HEAD + "M-", STREETS);
            place(HEAD + "D201M-", STREETS);
        });
        Due.edge("Terms: Mdsx: with a DOG: s is its STREET", () -> {
            for (int street = 0; street < 5; street++) {
                place(HEAD + "D" + street + "01M0", "" + street);
            }
            place(HEAD + "D201D301M0", "2");
            place(HEAD + "D201D301M1", "3");
        });
        Due.edge("Terms: Mdsx: x 1: it sings, 0", () -> {
            place(HEAD + "M-4", YES_NO);
            place(HEAD + "D001M00", YES_NO);
        });
        Due.edge("Terms: MEN (5 at most)", () -> {
            place(HEAD + "M-00M-00M-00M-00", "DM");
            place(HEAD + "M-00M-00M-00M-00M-00", "D");
            place(HEAD + "D001D001M-00M-00M-00M-00M-00", "DP");
        });
    }

    private static void keepers() {
        place(HEAD + "M", "-");
        place(HEAD + "D001M", "-0");
        place(HEAD + "D001D001M", "-01");
        place(HEAD + "D001D001D001M", "-012");
        place(HEAD + "D001D001D001D001M", "-0123");
        Due.is("told behind it", faultOf(HEAD + "M001D001"), 8);
    }

    private static void keepersRoom() {
        place(HEAD + "D001M000M", "-");
        place(HEAD + "D002M000M", "-0");
        place(HEAD + "D002M000M000M", "-");
        place(HEAD + "D003M000M000M", "-0");
        place(HEAD + "D003M000M000M000M", "-");
        place(HEAD + "D001M-00M", "-0");
        place(HEAD + "D001D001M000M", "-1");
        place(HEAD + "D001D001M100M", "-0");
        place(HEAD + "D001M000D001M", "-1");
    }

    private static void parents() {
        String two = HEAD + "D001D001";
        String three = two + "D001";
        String four = three + "D001";
        Due.edge("Terms: Pij: both told ahead: i", () -> {
            place(two + "P", "01");
            place(three + "P", "012");
            place(four + "P", "0123");
        });
        Due.edge("Terms: Pij: both told ahead: j", () -> {
            place(two + "P0", "1");
            place(three + "P0", "12");
            place(four + "P0", "123");
        });
        Due.edge("Terms: Pij: unlike", () -> {
            place(four + "P1", "023");
            place(four + "P2", "013");
            place(four + "P3", "012");
        });
        Due.edge("Terms: Pij: j has none so far", () -> {
            place(four + "P01P0", "23");
            place(four + "P01P2", "03");
            place(four + "P01P02P0", "3");
            place(four + "P01P32P3", "0");
        });
        Due.edge("Terms: Pij: i does not come from j", () -> {
            place(four + "P01P1", "23");
            place(four + "P10P0", "23");
        });
        Due.edge("Terms: Pij: i does not come from j, by any parents", () -> {
            place(four + "P01P12P2", "3");
            place(four + "P21P10P0", "3");
            place(four + "P01P12P3", "0");
            place(four + "P01P23P3", "0");
            place(four + "P01P23P1", "2");
        });
        Due.edge("Terms: Pij: no byte behind it can make a pair", () -> {
            place(HEAD, "DM");
            place(HEAD + "D001", "DM");
            place(two + "P01", "DM");
            place(three + "P01", "DMP");
            place(three + "P01P02", "DM");
            place(three + "P01P12", "DM");
            place(four + "P01P12", "MP");
            place(four + "P01P12P23", "M");
            place(four + "P01P12P30", "M");
            place(two + "P01D001", "DMP");
        });
    }
}
