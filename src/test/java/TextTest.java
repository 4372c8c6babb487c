/** Promises 24 to 28: texts. */
public final class TextTest {
    private static final int BAD = RopeFerry.BAD;
    private static final int FULL = RopeFerry.FULL;
    private static final int NONE = RopeFerry.NONE;
    private static final int LOW = Integer.MIN_VALUE;
    private static final int HIGH = Integer.MAX_VALUE;

    public static void main(String[] args) {
        feed();
        trim();
        textIsNumbered();
        textsAreFull();
        whatTextsGive();
        names();
        faults();
        faultsOfNesting();
        longest();
        everyByte();
        theTapeIsUsedUp();
        textTold();
        why();
        Due.end();
    }

    private static void feed() {
        RopeFerry x = new RopeFerry();
        Due.be("24 twelve", x.feed(0x66696e65, 0x20313233, 0x2b703c74), 12);
        Due.be("24 the highest byte first", x.text(), 0);
        Due.be("24 fine 123+p<t", x.fine(), 0);
        Due.be("24 the tape is used up", x.count(6), 0);
        for (int i = 1; i <= 8; i++) {
            Due.be("24 how many it has", x.feed(0x20202020, 0x20202020, 0x20202020), 12 * i);
        }
        Due.be("24 FULL", x.feed(0, 0, 0), FULL);
        Due.be("24 FULL changes nothing", x.count(6), 96);
        x.trim(85);
        Due.be("24 85 and 12 are above 96", x.feed(0, 0, 0), FULL);
        x.trim(84);
        Due.be("24 84 and 12 are 96", x.feed(0, 0, 0), 96);
        Due.be("24 bytes of 0 are signs", x.text(), -184);
        Due.be("24 bytes above 127 are signs", faultOf("fine " + (char) 255), 5);
        Due.be("24 the sign of a number is a byte as any", sign(), -101);
    }

    private static int sign() {
        RopeFerry x = new RopeFerry();
        x.feed(0x20ffffff, -1, LOW);
        return x.text();
    }

    private static void trim() {
        RopeFerry x = new RopeFerry();
        Due.be("25 nothing", x.trim(0), 0);
        Due.be("25 it has none", x.trim(1), BAD);
        Tape.put(x, "fine 12345");
        for (int wrong : new int[] {-1, 11, 97, LOW, HIGH}) {
            Due.be("25 BAD", x.trim(wrong), BAD);
        }
        Due.be("25 BAD changes nothing", x.count(6), 10);
        Due.be("25 all of it", x.trim(10), 10);
        Due.be("25 its first nine", x.trim(9), 9);
        Due.be("25 bytes", x.count(6), 9);
        Tape.put(x, "+5");
        Due.be("25 what comes comes behind them", x.text(), 0);
        Due.be("25 fine 1234+5", x.fine(), 1239);
    }

    private static void textIsNumbered() {
        RopeFerry x = new RopeFerry();
        Due.be("26 empty", x.text(), -100);
        Due.be("26 the first", Tape.tell(x, "toll w"), 0);
        Due.be("26 a FAULT", Tape.tell(x, "toll t"), -105);
        Due.be("26 the second", Tape.tell(x, "fine t"), 1);
        Due.be("26 TEXTS", x.count(4), 2);
    }

    private static void textsAreFull() {
        RopeFerry x = new RopeFerry();
        for (int i = 0; i < 14; i++) {
            Due.be("26 its number", Tape.tell(x, i == 13 ? "fine 13" : "pull s"), i);
        }
        Due.be("26 FULL", Tape.tell(x, "fine 14"), FULL);
        Due.be("26 FULL uses the tape up", x.count(6), 0);
        Due.be("26 FULL changes nothing", x.fine(), 13);
        Due.be("26 a FAULT stands ahead of FULL", Tape.tell(x, "fine a"), -105);
        Due.be("26 fourteen", x.count(4), 14);
    }

    private static int given(String e) {
        RopeFerry x = new RopeFerry();
        Due.be("26 no FAULT in " + e, Tape.tell(x, "fine " + e), 0);
        return x.fine();
    }

    private static void whatTextsGive() {
        Object[][] due = {{"7", 7}, {"0", 0}, {"0007", 7}, {"9999", 9999}, {"1+2*3", 7}, {"(1+2)*3", 9}, {"9-3-2", 4},
            {"9-(3-2)", 8}, {"7/2", 3}, {"(0-7)/2", -3}, {"7/0", 0}, {"(0-7)/0", 0}, {"9/2*2", 8}, {"2*9/2", 9},
            {"1<2", 1}, {"2<2", 0}, {"2=2", 1}, {"2=3", 0}, {"3>2", 1}, {"2>2", 0}, {"1+1<3", 1}, {"0-1<0", 1},
            {"!0", 1}, {"!1", 0}, {"!7", 0}, {"!!7", 1}, {"!0*5", 5}, {"!(0*5)", 1}, {"!2+3", 3}, {"2&4", 1}, {"2&0", 0},
            {"0&0", 0}, {"2|0", 1}, {"0|0", 0}, {"0|7", 1}, {"1|0&0", 1}, {"(1|0)&0", 0}, {"0&0|1", 1}, {"1<2&3<2", 0},
            {"1<2|3<2", 1}, {"(1<2)<2", 1}, {"(5)", 5}, {"((5))", 5}, {" 5", 5}, {"5 ", 5}, {"  ( 5 + 1 )  ", 6},
            {"9999*9999*9999", 9999 * 9999 * 9999}, {"5&6&7", 1}, {"5&0&7", 0}, {"0|0|7", 1}, {"2-1&1", 1},
            {"(0-9999*9999*9999/9999)", -(9999 * 9999 * 9999 / 9999)}, {"1-1=0", 1}, {"!t", 1}, {"!(t|p)", 1},
            {"(0-4096)*4096*128/(0-1)", LOW}, {"(0-7)*2", -14}, {"3*!0", 3}, {"8/2/2", 2}, {"8/(2/2)", 8}};
        for (Object[] one : due) {
            Due.be("26 fine " + one[0], given((String) one[0]), (Integer) one[1]);
        }
    }

    private static void names() {
        RopeFerry x = new RopeFerry();
        x.load(0, 20, 0);
        x.set(0, 3, 300);
        Tape.tell(x, "toll w");
        Due.be("26 toll w is WEIGHT", x.told(0, 5), 20);
        Tape.tell(x, "toll s");
        Due.be("26 toll s is STREAM", x.told(0, 5), 40);
        Tape.tell(x, "toll v");
        Due.be("26 toll v is WAITS", x.told(0, 5), 300);
        Tape.tell(x, "pull s");
        Due.be("26 pull s is STREAM", x.pull(77), 40);
        Tape.tell(x, "pull w");
        Due.be("26 pull w is WEIGHT aboard", x.pull(77), 77);
        Tape.tell(x, "pull a");
        Due.be("26 pull a is SLANT", x.pull(77), 30);
        Tape.tell(x, "pull 0");
        Due.be("26 a NUMBER of 0 is no NAME", x.pull(77), 0);
        Tape.tell(x, "   pull 1");
        Due.be("26 blanks ahead", x.pull(77), 1);
        Tape.tell(x, " pull(2)");
        Due.be("26 no blank is needed ahead of a sign", x.pull(77), 2);
        Tape.tell(x, "fine t");
        x.steps(1);
        Due.be("26 fine t is TIME", x.fine(), 11);
        Tape.tell(x, "fine p");
        Due.be("26 fine p is TOLLS", x.fine(), 300);
    }

    private static int faultOf(String text) {
        RopeFerry x = new RopeFerry();
        Tape.put(x, text);
        int answer = x.text();
        Due.be("26 a FAULT is no TEXT: " + text, x.count(4), answer == 0 ? 1 : 0);
        return answer == 0 ? NONE : -100 - answer;
    }

    private static void faults() {
        Object[][] due = {{"", 0}, {"   ", 3}, {"toll", 4}, {"toll  ", 6}, {"tolls 1", 0}, {"tol 1", 0}, {"xoll 1", 0}, {"tolk 1", 0},
            {" bull w", 1}, {"nine t", 0}, {"Toll 1", 0},
            {"5", 0}, {"(", 0}, {"  tall w", 2}, {"fine5", 4}, {"finet", 0}, {"fine(5)", NONE}, {"fine!5", NONE},
            {"fine 5 5", 7}, {"fine 55t", 7}, {"fine t5", 6}, {"fine tp", 5}, {"fine t p", 7}, {"fine w", 5},
            {"fine s", 5}, {"pull v", 5}, {"pull t", 5}, {"toll a", 5}, {"toll p", 5}, {"fine x", 5}, {"fine fine", 5},
            {"fine 12345", 5}, {"fine 00001", 5}, {"fine 1+99999", 7}, {"fine 1+", 7}, {"fine 1+ ", 8}, {"fine (", 6},
            {"fine (1", 7}, {"fine ()", 6}, {"fine 1)", 6}, {"fine )", 5}, {"fine (1))", 8}, {"fine 1<2<3", 8},
            {"fine 1<2=3", 8}, {"fine (1<2)<3", NONE}, {"fine 1<2&3<4|5>6", NONE}, {"fine 1<2&3<4<5", 12},
            {"fine -1", 5}, {"fine +1", 5}, {"fine 1--1", 7}, {"fine 1!", 6}, {"fine 1 !1", 7}, {"fine !", 6},
            {"fine !&", 6}, {"fine &1", 5}, {"fine 1&&1", 7}, {"fine 1||1", 7}, {"fine 1<=1", 7}, {"fine 1(2)", 6},
            {"fine t(2)", 6}, {"fine (2)t", 8}, {"fine (2)2", 8}, {"fine (2)(2)", 8}, {"fine 1.5", 6}, {"fine\t1", 4},
            {"fine 1\n", 6}, {"fine T", 5}, {"fine 1%2", 6}, {"fine !(1", 8}, {"fine 1*", 7}, {"fine 1/", 7},
            {"fine 1<", 7}, {"fine 1|", 7}, {"fine 1&", 7}, {"fine t*", 7}, {"fine 1=2*3<4", 10}, {"fine (1=2=3)", 9},
            {"fine 1 2345", 7}, {"fine 1 23456", 7}, {"toll toll w", 5}, {"1 fine", 0}, {"fine 1 fine 2", 7}};
        for (Object[] one : due) {
            Due.be("26 FAULT of " + one[0], faultOf((String) one[0]), (Integer) one[1]);
        }
    }

    private static void faultsOfNesting() {
        Due.be("26 eight (", faultOf("fine ((((((((1))))))))"), NONE);
        Due.be("26 the ninth (", faultOf("fine (((((((((1)))))))))"), 13);
        Due.be("26 eight ( closed, and eight more", faultOf("fine ((((((((1))))))))+((((((((1))))))))"), NONE);
        Due.be("26 eight ( closed, and nine more", faultOf("fine ((((((((1))))))))+(((((((((1)))))))))"), 31);
        Due.be("26 eight !", faultOf("fine !!!!!!!!1"), NONE);
        Due.be("26 the ninth !", faultOf("fine !!!!!!!!!1"), 13);
        Due.be("26 eight ! and eight more", faultOf("fine !!!!!!!!1+!!!!!!!!t"), NONE);
        Due.be("26 eight ! and nine more", faultOf("fine !!!!!!!!1+!!!!!!!!!t"), 23);
        Due.be("26 each by itself", faultOf("fine !(!(!(!(!(!(!(!(1))))))))"), NONE);
        Due.be("26 a ! in a ( in a !", faultOf("fine !(!(!(!(!(!(!(!(!1))))))))"), 21);
        Due.be("26 a ( in a !", faultOf("fine !(!(!(!(!(!(!(!((1)))))))))"), 21);
        Due.be("26 a ! ends with its PIECE", faultOf("fine (!!!!!!!!1+!(!!!!!!!1))"), NONE);
        Due.be("26 a ! around a ( goes on in it", faultOf("fine !(!!!!!!!1+!!!!!!!!1)"), 23);
        Due.be("26 given", given("!!!!!!!!5+((((((((2))))))))"), 3);
    }

    private static void longest() {
        StringBuilder sum = new StringBuilder("fine t");
        while (sum.length() < 95) {
            sum.append("+1");
        }
        RopeFerry x = new RopeFerry();
        Due.be("26 96 bytes", Tape.tell(x, sum + " "), 0);
        Due.be("26 46 pieces", x.textTold(0, 1), 46);
        Due.be("26 their sum", x.fine(), 45);
        String deep = "fine 1-(1-(1-(1-(1-(1-(1-(1-(1-2))))))))";
        Due.be("26 eight levels deep", Tape.tell(x, deep), 1);
        Due.be("26 -1 and 2 by turns", x.fine(), -1);
    }

    /** A byte by itself behind "fine 1" goes on only as a blank, a digit or a sign between two. */
    private static void everyByte() {
        for (int b = 0; b < 256; b++) {
            char sign = (char) b;
            boolean joins = "|&<=>+-*/".indexOf(sign) >= 0;
            boolean digit = b >= '0' && b <= '9';
            int due = joins ? 7 : digit || b == ' ' ? NONE : 6;
            Due.be("26 byte " + b + " behind a NUMBER", faultOf("fine 1" + sign), due);
            boolean piece = digit || sign == 't' || sign == 'p';
            boolean opens = sign == '(' || sign == '!';
            int dueFirst = piece ? NONE : opens || b == ' ' ? 6 : 5;
            Due.be("26 byte " + b + " behind a KEY", faultOf("fine " + sign), dueFirst);
        }
    }

    private static void theTapeIsUsedUp() {
        RopeFerry x = new RopeFerry();
        Due.be("26 a FAULT", Tape.tell(x, "fine ("), -106);
        Due.be("26 the tape is used up by it", x.count(6), 0);
        Due.be("26 and told again", x.text(), -100);
    }

    private static void textTold() {
        RopeFerry x = new RopeFerry();
        Due.be("27 none yet", x.textTold(0, 0), BAD);
        Tape.tell(x, "toll w*(s+12)-!v");
        Tape.tell(x, "pull 5");
        Tape.tell(x, "fine t+t+t+1");
        int[] pieces = {4, 1, 4};
        for (int text = 0; text < 3; text++) {
            Due.be("27 KEY", x.textTold(text, 0), text);
            Due.be("27 NUMBERS and NAMES", x.textTold(text, 1), pieces[text]);
            for (int what : new int[] {-1, 2, LOW, HIGH}) {
                Due.be("27 BAD what", x.textTold(text, what), BAD);
            }
        }
        for (int text : new int[] {-1, 3, LOW, HIGH}) {
            Due.be("27 BAD text", x.textTold(text, 0), BAD);
        }
    }

    private static void why() {
        RopeFerry x = new RopeFerry();
        for (int key : new int[] {-1, 3, LOW, HIGH}) {
            Due.be("28 BAD", x.why(key), BAD);
        }
        Tape.tell(x, "pull 5");
        Due.be("28 toll has none", x.why(0), NONE);
        Due.be("28 pull", x.why(1), 0);
        Due.be("28 fine has none", x.why(2), NONE);
        Tape.tell(x, "fine 6");
        Tape.tell(x, "pull 7");
        Tape.tell(x, "toll (");
        Due.be("28 toll has none", x.why(0), NONE);
        Due.be("28 that was told last", x.why(1), 2);
        Due.be("28 fine", x.why(2), 1);
        Due.be("28 and counts", x.pull(0), 7);
    }
}
