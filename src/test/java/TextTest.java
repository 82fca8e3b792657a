/** Promises 9 to 11: feed, end, fault. */
public final class TextTest {
    private static final int NONE = GuildHouse.NONE;
    private static final Check check = new Check("TextTest");

    public static void main(String[] args) {
        feed();
        feedAtTheEnd();
        end();
        texts();
        faults();
        eachByteAtEachPlace();
        check.finish();
    }

    private static void feed() {
        GuildHouse house = new GuildHouse();
        check.same("feed(0)", house.feed(0), 0);
        check.same("zeros are left out", house.feed(0x64003c00), 2);
        check.same("zero first", house.feed(0x00000031), 3);
        check.same("d<1", house.fault(), NONE);
        check.same("the highest first", house.feed('2' << 24 | '3' << 16 | '|' << 8), 6);
        check.same("d<123|", house.fault(), 6);
        check.same("bytes above 127", house.feed(0xffffffff), 10);
        check.same("fault at a byte above 127", house.fault(), 6);
    }

    private static void feedAtTheEnd() {
        GuildHouse house = new GuildHouse();
        for (int i = 1; i <= 29; i++) {
            check.same("feed", house.feed(0x20202020), 4 * i);
        }
        check.same("feed to 118", house.feed(0x20000020), 118);
        check.same("above 120 by one", house.feed(0x20202000), NONE);
        check.same("above 120 by two", house.feed(0x20202020), NONE);
        check.same("refused: nothing added", house.count(6), 118);
        check.same("to 120", house.feed(0x00202000), 120);
        check.same("feed(0) at 120", house.feed(0), 120);
        check.same("one more", house.feed(1), NONE);
        check.same("fault is the end", house.fault(), 120);
        check.same("statute of a fault", house.statute(0), NONE);
        check.same("refused: the text stays", house.count(6), 120);
    }

    private static void end() {
        GuildHouse house = new GuildHouse();
        check.yes("end(0) of nothing", house.end(0));
        check.no("end(1) of nothing", house.end(1));
        Check.write(house, "d<12345");
        check.no("end(-1)", house.end(-1));
        check.no("end(8)", house.end(8));
        check.no("end(MIN)", house.end(Integer.MIN_VALUE));
        check.same("refused: the text stays", house.count(6), 7);
        check.yes("end(7)", house.end(7));
        check.same("all stay", house.count(6), 7);
        check.yes("end(2)", house.end(2));
        check.same("two stay", house.count(6), 2);
        check.same("fault at the end", house.fault(), 2);
        check.same("goes on behind them", Check.write(house, "9"), 3);
        check.same("d<9", house.fault(), NONE);
        check.no("what was cut is gone", house.end(4));
    }

    private static void texts() {
        String[] good = {
            "y<1", "d>0", "w=00000", "l<12345", "f>99999", "m=7", "k=1",
            " y < 1 ", "y<1&d>2|w=3", "(y<1)", "((((((((y<1))))))))", "(y<1|d=2)&(w=3)",
            "( y<1 ) | ( d>2 )", "(y<1)&(((((((d=1)))))))", "   k   =   1   ", "y<1  |d>2"};
        for (String text : good) {
            check.same("fault of '" + text + "'", faultOf(text), NONE);
        }
    }

    private static void faults() {
        fault("", 0);
        fault("   ", 3);
        fault("y", 1);
        fault("y<", 2);
        fault("y< ", 3);
        fault("y<1&", 4);
        fault("y<1|", 4);
        fault("(y<1", 4);
        fault("(", 1);
        fault("x<1", 0);
        fault("Y<1", 0);
        fault("1<y", 0);
        fault(")", 0);
        fault("()", 1);
        fault("y1", 1);
        fault("yd<1", 1);
        fault("y<=1", 2);
        fault("y<-1", 2);
        fault("y<d", 2);
        fault("y<1)", 3);
        fault("y<1 2", 4);
        fault("y<1(", 3);
        fault("y<1d<2", 3);
        fault("y<1&&d<2", 4);
        fault("y<1|&d<2", 4);
        fault("(y<1)(d<2)", 5);
        fault("(y<1)2", 5);
        fault("(y<1) y", 6);
        fault("y<123456", 7);
        fault("y<000001", 7);
        fault("(((((((((", 8);
        fault("((((((((y<1)))))))", 18);
        fault("(((((((( (y<1", 9);
        fault("((((((((y<1)))))))))", 19);
        fault("(((((((y<1)))))))&((((((((( ", 26);
        fault("y<1\t", 3);
        fault("y<1;", 3);
    }

    private static void fault(String text, int due) {
        check.same("fault of '" + text + "'", faultOf(text), due);
    }

    private static int faultOf(String text) {
        GuildHouse house = new GuildHouse();
        Check.write(house, text);
        int answer = house.fault();
        check.same("fault changes nothing", house.count(6), text.length());
        check.same("fault again", house.fault(), answer);
        return answer;
    }

    /** For each place of a text, the bytes that may stand there, of all that there are. */
    private static void eachByteAtEachPlace() {
        bytesAfter("", " (ydwlfmk");
        bytesAfter("(", " (ydwlfmk");
        bytesAfter("y<1&", " (ydwlfmk");
        bytesAfter("y<1|", " (ydwlfmk");
        bytesAfter("((((((((", " ydwlfmk");
        bytesAfter("y", " <>=");
        bytesAfter("y ", " <>=");
        bytesAfter("y<", " 0123456789");
        bytesAfter("y= ", " 0123456789");
        bytesAfter("y>1", " 0123456789&|");
        bytesAfter("y>12345", " &|");
        bytesAfter("y>1 ", " &|");
        bytesAfter("(y>1", " 0123456789&|)");
        bytesAfter("(y>12345", " &|)");
        bytesAfter("(y>1 ", " &|)");
        bytesAfter("(y>1)", " &|");
        bytesAfter("((y>1)", " &|)");
    }

    private static void bytesAfter(String before, String fitting) {
        for (int sign = 1; sign < 256; sign++) {
            String text = before + (char) sign;
            int fault = faultOf(text);
            boolean fits = fault == NONE || fault == text.length();
            check.same("byte " + sign + " behind '" + before + "'", fits ? 1 : 0,
                    fitting.indexOf(sign) >= 0 ? 1 : 0);
            if (!fits) {
                check.same("its fault", fault, before.length());
            }
        }
    }
}
