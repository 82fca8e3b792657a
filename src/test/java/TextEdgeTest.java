/** The edges that the document names of texts and their faults: promises 9 to 11. */
public final class TextEdgeTest {
    private static final int NONE = GuildHouse.NONE;
    private static final int MIN = Integer.MIN_VALUE;
    private static final int MAX = Integer.MAX_VALUE;
    private static final Check check = new Check("TextEdgeTest");

    public static void main(String[] args) {
        highestFirst();
        zeroIsLeftOut();
        above120();
        firstBytesAlone();
        endRefused();
        textsFault();
        noFault();
        anyByte();
        words();
        signs();
        numbers();
        blanks();
        parts();
        units();
        bracketsOrTests();
        firstByteOrEnd();
        sixthDigit();
        ninthBracket();
        check.finish();
    }

    private static GuildHouse houseWith(String text) {
        return Check.withText(Check.houseOf(2, 1), text);
    }

    /** A text of so many bytes without a fault, but for less than three. */
    private static String textOf(int bytes) {
        return " ".repeat(Math.max(0, bytes - 3)) + "d=0".substring(0, Math.min(3, bytes));
    }

    private static void fault(String text, int due) {
        GuildHouse house = Check.withText(new GuildHouse(), text);
        check.same("bytes of '" + text + "'", house.count(6), text.length());
        check.same("fault of '" + text + "'", house.fault(), due);
        check.same("fault of '" + text + "' again", house.fault(), due);
        check.same("its statute", house.statute(0), due == NONE ? 0 : NONE);
        check.same("its bytes then", house.count(6), due == NONE ? 0 : text.length());
    }

    private static void highestFirst() {
        check.says("Promise 9", "Four bytes more of the TEXT (the highest first");
        check.same("d<12", new GuildHouse().feed(0x643c3132), 4);
        GuildHouse house = new GuildHouse();
        house.feed(0x643c3132);
        check.same("d<12 has no fault", house.fault(), NONE);
        house.feed(0x7c643d31);
        check.same("d<12|d=1 has none", house.fault(), NONE);
        check.same("eight", house.count(6), 8);
        GuildHouse reversed = new GuildHouse();
        reversed.feed(0x32313c64);
        check.same("21<d", reversed.fault(), 0);
        int[] inOrder = {0x64316464, 0x643c6464, 0x643c3164};
        int[] due = {1, 2, 3};
        for (int i = 0; i < 3; i++) {
            GuildHouse each = new GuildHouse();
            each.feed(inOrder[i]);
            check.same("the place of the fault", each.fault(), due[i]);
        }
    }

    private static void zeroIsLeftOut() {
        check.says("Promise 9", "0 is left out): how many there are");
        for (int mask = 0; mask < 16; mask++) {
            int bytes = 0;
            for (int i = 0; i < 4; i++) {
                bytes = bytes << 8 | ((mask >> i & 1) == 1 ? ' ' : 0);
            }
            GuildHouse house = houseWith("d=1");
            check.same("feed of mask " + mask, house.feed(bytes), 3 + Integer.bitCount(mask));
            check.same("count(6)", house.count(6), 3 + Integer.bitCount(mask));
            check.same("no fault", house.fault(), NONE);
        }
        GuildHouse house = new GuildHouse();
        check.same("nothing at all", house.feed(0), 0);
        check.same("d", house.feed(0x00640000), 1);
        check.same("=", house.feed(0x0000003d), 2);
        check.same("7", house.feed(0x37000000), 3);
        check.same("d=7", house.fault(), NONE);
        check.changesNothing("feed(0)", () -> houseWith("d=1"), h -> h.feed(0));
    }

    private static void above120() {
        check.says("Promise 9", "NONE: above 120");
        check.same("116 and 4", houseWith(textOf(116)).feed(0x20202020), 120);
        check.same("117 and 3", houseWith(textOf(117)).feed(0x20200020), 120);
        check.same("119 and 1", houseWith(textOf(119)).feed(0x00002000), 120);
        check.same("120 and 0", houseWith(textOf(120)).feed(0), 120);
        check.isNone("117 and 4", () -> houseWith(textOf(117)), h -> h.feed(0x20202020));
        check.isNone("118 and 3", () -> houseWith(textOf(118)), h -> h.feed(0x20002020));
        check.isNone("119 and 2", () -> houseWith(textOf(119)), h -> h.feed(0x31310000));
        check.isNone("120 and 1", () -> houseWith(textOf(120)), h -> h.feed(0x31));
        check.isNone("120 and 1, the highest", () -> houseWith(textOf(120)), h -> h.feed(0xff000000));
        check.isNone("120 and 4", () -> houseWith(textOf(120)), h -> h.feed(-1));
        for (int bit = 0; bit < 32; bit++) {
            check.same("119 and bit " + bit, houseWith(textOf(119)).feed(1 << bit), 120);
            check.same("120 and bit " + bit, houseWith(textOf(120)).feed(1 << bit), NONE);
        }
        check.same("116 and the least bytes", houseWith(textOf(116)).feed(0x01010101), 120);
        check.same("117 and the least bytes", houseWith(textOf(117)).feed(0x01010101), NONE);
        check.same("117 and the greatest bytes", houseWith(textOf(117)).feed(0x80808080), NONE);
        GuildHouse house = houseWith(textOf(120));
        house.feed(0x31);
        check.same("120 stay", house.count(6), 120);
        house.end(119);
        check.same("room again", house.feed(0x31), 120);
    }

    private static void firstBytesAlone() {
        check.says("Promise 10", "The TEXT has its first n bytes alone");
        for (int n = 0; n <= 7; n++) {
            GuildHouse house = houseWith("d<1&d>2");
            check.yes("end(" + n + ")", house.end(n));
            check.same("bytes", house.count(6), n);
            check.same("fault", house.fault(), n == 3 || n == 7 ? NONE : n);
            check.no("what was behind is gone", house.end(n + 1));
        }
        GuildHouse house = houseWith("d<1&d>2");
        house.end(4);
        check.same("the text goes on there", Check.write(house, "(k=1)"), 9);
        check.same("d<1&(k=1)", house.fault(), NONE);
        check.yes("end(0) of nothing", new GuildHouse().end(0));
        check.yes("end(120)", houseWith(textOf(120)).end(120));
        check.changesNothing("end of all", () -> houseWith("d<1&"), h -> h.end(4));
    }

    private static void endRefused() {
        check.says("Promise 10", "False: n");
        for (int n : new int[] {-1, 5, 120, 121, MIN, MAX}) {
            check.isFalse("end(" + n + ")", () -> houseWith("d<1&"), h -> h.end(n));
        }
        check.isFalse("end(1) of nothing", () -> Check.houseOf(2), h -> h.end(1));
        check.isFalse("end(-1) of nothing", () -> Check.houseOf(2), h -> h.end(-1));
        check.isFalse("end(121) of 120", () -> houseWith(textOf(120)), h -> h.end(121));
        check.isFalse("what was cut", () -> {
            GuildHouse house = houseWith("d<1&");
            house.end(3);
            return house;
        }, h -> h.end(4));
        check.isFalse("what became a statute", () -> {
            GuildHouse house = houseWith("d<12");
            house.statute(0);
            return house;
        }, h -> h.end(4));
    }

    private static void textsFault() {
        check.says("Promise 11", "The TEXT's FAULT");
        fault("", 0);
        fault("d", 1);
        fault("d<x", 2);
        fault(textOf(119) + "x", 119);
        fault(textOf(119) + "|", 120);
        fault(" ".repeat(120), 120);
        check.changesNothing("fault() of a fault", () -> houseWith("d<"), GuildHouse::fault);
        check.changesNothing("fault() of nothing", () -> Check.houseOf(2, 1), GuildHouse::fault);
    }

    private static void noFault() {
        check.says("Promise 11", "NONE: none");
        fault("d<0", NONE);
        fault(textOf(120), NONE);
        check.changesNothing("fault() of none", () -> houseWith("d<1"), GuildHouse::fault);
    }

    /** Whether a text with this byte behind it could still go on. */
    private static boolean goesOn(String before, int sign) {
        GuildHouse house = Check.withText(new GuildHouse(), before + (char) sign);
        int fault = house.fault();
        check.yes("no fault before the byte", fault == NONE || fault >= before.length());
        return fault != before.length();
    }

    private static void onlyThese(String before, String fitting) {
        for (int sign = 1; sign < 256; sign++) {
            check.same("byte " + sign + " behind '" + before + "'", goesOn(before, sign) ? 1 : 0,
                    fitting.indexOf(sign) >= 0 ? 1 : 0);
        }
    }

    private static void anyByte() {
        check.says("Terms 2", "TEXT: bytes");
        for (int sign = 1; sign < 256; sign++) {
            GuildHouse house = new GuildHouse();
            check.same("byte " + sign + " in the highest place", house.feed(sign << 24), 1);
            check.same("byte " + sign + " in the lowest place", house.feed(sign), 2);
        }
        for (int sign : new int[] {127, 128, 160, 255, '\t', '\n', 31, 33, 1}) {
            fault("d<1" + (char) sign, 3);
            fault((char) sign + "d<1", 0);
        }
    }

    private static void words() {
        check.says("Terms 2", "Words y, d, w, l, f, m, k");
        onlyThese("", " (ydwlfmk");
        onlyThese("k=1&", " (ydwlfmk");
        onlyThese("k=1|", " (ydwlfmk");
        onlyThese("(", " (ydwlfmk");
        for (char word : "ydwlfmk".toCharArray()) {
            fault(word + "<1", NONE);
            fault("(" + word + "=1)", NONE);
            fault("" + word, 1);
            fault(word + "" + word + "<1", 1);
            fault(Character.toUpperCase(word) + "<1", 0);
        }
    }

    private static void signs() {
        check.says("Terms 2", "< > = & | ( )");
        onlyThese("d", " <>=");
        onlyThese("d ", " <>=");
        onlyThese("d<12345", " &|");
        onlyThese("(d<12345", " &|)");
        onlyThese("(d<1)", " &|");
        fault("d<1;", 3);
        fault("d<1;d<1", 3);
        fault("d<=1", 2);
        fault("d!1", 1);
        fault("d<1,d<1", 3);
    }

    private static void numbers() {
        check.says("Terms 2", "numbers of 1 to 5 digits");
        onlyThese("d<", " 0123456789");
        onlyThese("d< ", " 0123456789");
        onlyThese("d<1", " 0123456789&|");
        onlyThese("d<1234", " 0123456789&|");
        fault("d<", 2);
        fault("d<&", 2);
        fault("(d<)", 3);
        fault("d<0", NONE);
        fault("d<00000", NONE);
        fault("d<99999", NONE);
        fault("d<-1", 2);
        fault("d<+1", 2);
        fault("(d<99999)&k=99999", NONE);
    }

    private static void blanks() {
        check.says("Terms 2", "blanks (32) where they like, but not within numbers");
        fault(" d<1", NONE);
        fault("d <1", NONE);
        fault("d< 1", NONE);
        fault("d<1 ", NONE);
        fault("  (  d  <  12345  )  &  k  =  1  |  (  y > 0  )  ", NONE);
        fault("d<1 2", 4);
        fault("d<1   2", 6);
        fault("d<1234 5", 7);
        fault("(d<1 2)", 5);
        fault("d<1 &d<2", NONE);
        fault(" ", 1);
        fault("( )", 2);
        onlyThese("d<1 ", " &|");
        onlyThese("(d<1 ", " &|)");
        fault("d<1\u00a0", 3);
    }

    private static void parts() {
        check.says("Terms 2", "parts with | between");
        fault("k=1", NONE);
        fault("k=1|k=2", NONE);
        fault("k=1|k=2|k=3", NONE);
        fault("|k=1", 0);
        fault("k=1|", 4);
        fault("k=1||k=2", 4);
        fault("k=1 k=2", 4);
        fault("(|k=1)", 1);
        fault("(k=1|)", 5);
    }

    private static void units() {
        check.says("Terms 2", "units with & between");
        fault("k=1&k=2", NONE);
        fault("k=1&k=2&k=3", NONE);
        fault("k=1|k=2&k=3|k=4", NONE);
        fault("&k=1", 0);
        fault("k=1&", 4);
        fault("k=1&&k=2", 4);
        fault("k=1&|k=2", 4);
        fault("k=1|&k=2", 4);
        fault("(k=1&)", 5);
        fault("(k=1)(k=2)", 5);
    }

    private static void bracketsOrTests() {
        check.says("Terms 2", "a unit: ( TESTS ), or a word, one of < > =, a number");
        fault("(k=1)", NONE);
        fault("((k=1)|k=2&(k=3))", NONE);
        fault("()", 1);
        fault("(k=1", 4);
        fault("(", 1);
        fault("k=1)", 3);
        fault("(k=1))", 5);
        fault(")", 0);
        fault("k(", 1);
        fault("k=(1)", 2);
        fault("k=1(", 3);
        fault("k=1<2", 3);
        fault("1=k", 0);
        fault("=1", 0);
        fault("k=k", 2);
        fault("k==1", 2);
        fault("(k)=1", 2);
        fault("k=1k=1", 3);
    }

    private static void firstByteOrEnd() {
        check.says("Terms 2", "the first byte (or the end) at which no TEXT can go on");
        fault("x", 0);
        fault("k=1x)((", 3);
        fault("((k=1)x", 6);
        fault("xx", 0);
        String whole = "((k=1)|d<23)&w>4";
        for (int n = 0; n <= whole.length(); n++) {
            boolean ends = n == 12 || n >= 16;
            fault(whole.substring(0, n), ends ? NONE : n);
        }
        String two = "k=1|d<23";
        for (int n = 0; n <= two.length(); n++) {
            boolean ends = n == 3 || n >= 7;
            fault(two.substring(0, n), ends ? NONE : n);
        }
    }

    private static void sixthDigit() {
        check.says("Terms 2", "a number's sixth digit");
        fault("d<12345", NONE);
        fault("d<123456", 7);
        fault("d<1234567", 7);
        fault("d<000000", 7);
        fault("d< 12345", NONE);
        fault("d< 123456", 8);
        fault("d<12345&k=12345", NONE);
        fault("d<12345&k=123456", 15);
        fault("d<123456&k=1", 7);
        fault("(d<123456)", 8);
        fault("d<1|d<2|d<3|d<4|d<5|d<6", NONE);
    }

    private static void ninthBracket() {
        check.says("Terms 2", "a ninth ( within one another");
        String eight = "((((((((";
        fault(eight + "k=1" + "))))))))", NONE);
        fault(eight, 8);
        fault(eight + "(", 8);
        fault(eight + "(k=1)))))))))", 8);
        fault(eight + " (", 9);
        fault(eight + "k=1&(", 12);
        fault(eight + "k=1|(", 12);
        fault(eight + "k=1)&(k=2))))))))", NONE);
        fault(eight + "k=1)&((", 14);
        fault("(k=1)&(k=1)&(k=1)&(k=1)&(k=1)&(k=1)&(k=1)&(k=1)&(k=1)", NONE);
        fault(eight + "k=1))))))))|" + eight + "k=1))))))))", NONE);
        fault(eight + "k=1))))))))|" + eight + "(", 28);
        onlyThese(eight, " ydwlfmk");
        onlyThese(eight.substring(1), " (ydwlfmk");
    }
}
