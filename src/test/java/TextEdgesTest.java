/** Edges that the document names in its section 4 (TEXTS, THE TAPE), for promises 24 to 28. */
public final class TextEdgesTest {
    private static final int BAD = RopeFerry.BAD;
    private static final int FULL = RopeFerry.FULL;
    private static final int NONE = RopeFerry.NONE;
    private static final int LOW = Integer.MIN_VALUE;
    private static final int HIGH = Integer.MAX_VALUE;
    /** What faultOf answers for a TEXT. */
    private static final int FINE = -1;

    public static void main(String[] args) {
        bytesOfTheTape();
        theHighestByteFirst();
        trimmed();
        anActUsesTheTapeUp();
        whereATextMayEnd();
        digitsOfANumber();
        keys();
        namesOfEachKey();
        whatAWordIs();
        blanks();
        theLastPlaceOfTheTape();
        brackets();
        nots();
        oneTestAlone();
        halvesAreCut();
        nothingByNothing();
        intsWrap();
        testsGiveOneOrNone();
        loosestFirst();
        fourteenTexts();
        toldLast();
        howManyPieces();
        whatIsNoText();
        Due.end();
    }

    private static int faultOf(String tape) {
        RopeFerry x = new RopeFerry();
        Tape.put(x, tape);
        int answer = x.text();
        Due.be("it is a TEXT or it is none: " + tape, x.count(4), answer == 0 ? 1 : 0);
        Due.be("the tape is used up: " + tape, x.count(6), 0);
        return answer == 0 ? FINE : -100 - answer;
    }

    private static void fault(String tape, int due) {
        Due.be("FAULT of [" + tape + "]", faultOf(tape), due);
    }

    private static int given(String e) {
        RopeFerry x = new RopeFerry();
        Due.be("fine " + e, Tape.tell(x, "fine " + e), 0);
        return x.fine();
    }

    /** "THE TAPE (96 bytes at most ...)"; "FULL: it would have more than 96." */
    private static void bytesOfTheTape() {
        for (int bytes = 0; bytes <= 96; bytes++) {
            RopeFerry x = new RopeFerry();
            Tape.put(x, " ".repeat(bytes));
            Due.be("how many it has", x.count(6), bytes);
            Due.be("twelve more", x.feed(1, 2, 3), bytes <= 84 ? bytes + 12 : FULL);
            Due.be("how many it has then", x.count(6), bytes <= 84 ? bytes + 12 : bytes);
        }
    }

    /** "Twelve bytes come to THE TAPE, the highest of each number first." */
    private static void theHighestByteFirst() {
        String text = "fine 1234+56";
        for (int at = 5; at < 12; at++) {
            StringBuilder tape = new StringBuilder(text);
            tape.setCharAt(at, (char) 128);
            fault(tape.toString(), at);
        }
        RopeFerry x = new RopeFerry();
        x.feed(0x66696e65, 0x20313233, 0x342b3536);
        Due.be("as it stands", x.text(), 0);
        Due.be("1234 and 56", x.fine(), 1290);
        for (int four : new int[] {-1, LOW, HIGH, 0}) {
            x.feed(four, four, four);
            Due.be("any number has four bytes", x.count(6), 12);
            Due.be("the first is none of a TEXT", x.text(), -100);
        }
    }

    /** "THE TAPE keeps its first n bytes: n. BAD." */
    private static void trimmed() {
        RopeFerry none = new RopeFerry();
        Due.be("0 of none", none.trim(0), 0);
        Due.be("1 of none", none.trim(1), BAD);
        Due.be("-1 of none", none.trim(-1), BAD);
        for (int bytes : new int[] {1, 12, 95, 96}) {
            RopeFerry x = new RopeFerry();
            Tape.put(x, " ".repeat(bytes));
            for (int wrong : new int[] {-1, bytes + 1, LOW, HIGH}) {
                Due.be("trim " + wrong + " of " + bytes, x.trim(wrong), BAD);
                Due.be("they stay", x.count(6), bytes);
            }
            Due.be("all of them", x.trim(bytes), bytes);
            Due.be("one less", x.trim(bytes - 1), bytes - 1);
            Due.be("what was cut off does not come again", x.trim(bytes), BAD);
            Due.be("none", x.trim(0), 0);
            Due.be("none", x.count(6), 0);
        }
    }

    /** "An act that reads it uses it up, whatever it answers." */
    private static void anActUsesTheTapeUp() {
        RopeFerry x = new RopeFerry();
        for (int i = 0; i < 14; i++) {
            Due.be("a TEXT", Tape.tell(x, "fine " + i), i);
            Due.be("uses it up", x.count(6), 0);
        }
        Due.be("FULL", Tape.tell(x, "fine 14"), FULL);
        Due.be("uses it up", x.count(6), 0);
        Due.be("a FAULT", Tape.tell(x, "fine"), -104);
        Due.be("uses it up", x.count(6), 0);
        Due.be("an empty one", x.text(), -100);
        Tape.put(x, "fine 7");
        x.keep();
        x.back();
        x.count(6);
        x.trim(6);
        Due.be("no other act does", x.count(6), 6);
    }

    /** "The end (the place behind the last byte), if it comes too soon." */
    private static void whereATextMayEnd() {
        String text = "fine (t+12)*!p<3|(0&1)";
        int[] due = {0, 0, 0, 0, 4, 5, 6, 7, 8, 9, 10, FINE, 12, 13, FINE, 15, FINE, 17, 18, 19, 20, 21, FINE};
        for (int bytes = 0; bytes <= text.length(); bytes++) {
            fault(text.substring(0, bytes), due[bytes]);
            boolean atEnd = due[bytes] == bytes;
            fault(text.substring(0, bytes) + "   ", atEnd ? bytes + 3 : due[bytes]);
        }
    }

    /** "NUMBER (1 to 4 digits)"; "a NUMBER of more than 4 digits". */
    private static void digitsOfANumber() {
        String[] numbers = {"0", "9", "00", "10", "99", "000", "100", "999", "0000", "0001", "1000", "9999"};
        for (String number : numbers) {
            Due.be("NUMBER " + number, given(number), Integer.parseInt(number));
        }
        for (String number : new String[] {"00000", "00001", "10000", "99999", "123456", "4294967297"}) {
            fault("fine " + number, 5);
            fault("fine 1+" + number, 7);
            fault("fine (" + number + ")", 6);
            fault("fine !" + number, 6);
        }
        fault("fine 1234 5", 10);
        fault("fine 1234t", 9);
    }

    /** "KEY: toll | pull | fine." */
    private static void keys() {
        String[] keys = {"toll", "pull", "fine"};
        for (int key = 0; key < 3; key++) {
            RopeFerry x = new RopeFerry();
            Due.be("KEY " + keys[key], Tape.tell(x, keys[key] + " 1"), 0);
            Due.be("KEY " + keys[key], x.textTold(0, 0), key);
            Due.be("it counts", x.why(key), 0);
            fault(keys[key].substring(0, 3) + " 1", 0);
            fault(keys[key] + keys[key].charAt(3) + " 1", 0);
            fault(keys[key].substring(1) + " 1", 0);
            fault(keys[key].toUpperCase() + " 1", 0);
            for (int at = 0; at < 4; at++) {
                StringBuilder other = new StringBuilder(keys[key]);
                other.setCharAt(at, 'z');
                fault(other + " 1", 0);
            }
            fault("1 " + keys[key], 0);
            fault(keys[key] + " " + keys[key], 5);
            fault("(" + keys[key] + " 1)", 0);
            fault("!" + keys[key] + " 1", 0);
        }
    }

    /** "Of toll w WEIGHT, s STREAM, v WAITS; of pull s STREAM, w WEIGHT aboard, a SLANT; of fine t TIME, p TOLLS." */
    private static void namesOfEachKey() {
        String[] keys = {"toll", "pull", "fine"};
        String[] names = {"wsv", "swa", "tp"};
        for (int key = 0; key < 3; key++) {
            for (char letter = 'a'; letter <= 'z'; letter++) {
                boolean is = names[key].indexOf(letter) >= 0;
                fault(keys[key] + " " + letter, is ? FINE : 5);
                fault(keys[key] + " 1+" + letter, is ? FINE : 7);
                fault(keys[key] + " " + letter + letter, 5);
            }
        }
    }

    /** "A word is a row of letters a .. z, or of digits, as long as it goes; any other byte is a sign by itself." */
    private static void whatAWordIs() {
        for (char key : new char[] {'`', '{', '@', 'A', 'Z', '[', '/', ':', 0, 31, 33, 127, 128, 255}) {
            fault(key + "fine 1", 0);
            fault("fine" + key + "1", key == '!' ? FINE : 4);
            fault("fine 1" + key, key == '/' ? 7 : 6);
            fault("fine 1 " + key + "1", key == '/' ? FINE : 7);
        }
        fault("fine5", 4);
        fault("fine55555", 4);
        fault("fine(5)", FINE);
        fault("fine!5", FINE);
        fault("finet", 0);
        fault("5fine", 0);
        fault("fine t5", 6);
        fault("fine 5t", 6);
        fault("fine 5 t", 7);
        fault("fine t 5", 7);
        fault("fine (5)t", 8);
        fault("fine (5) t", 9);
        fault("fine (5)(t)", 8);
        fault("fine 5(t)", 6);
    }

    /** "Between words and signs, and at the ends, there may be blanks (byte 32)." */
    private static void blanks() {
        Due.be("everywhere", given("  (  12  +  !  0  )  *  3  <  40  &  7  |  0  "), 1);
        Due.be("nowhere", given("(12+!0)*3<40&7|0"), 1);
        Due.be("nowhere but behind the KEY", given("(12+!0)*3"), 39);
        fault(" fine 1", FINE);
        fault("          fine          1          ", FINE);
        fault("fi ne 1", 0);
        fault("fine 1 2", 7);
        fault("fine\n1", 4);
        fault("fine 1\t", 6);
        fault(" ", 1);
        fault("  fine  ", 8);
        fault("  fined  ", 2);
    }

    private static void theLastPlaceOfTheTape() {
        String blanks = " ".repeat(96);
        fault(blanks, 96);
        fault(blanks.substring(4) + "fine", 96);
        fault("fine" + blanks.substring(4), 96);
        fault("fine 1" + blanks.substring(7) + ")", 95);
        fault("fine 1" + blanks.substring(7) + "+", 96);
        fault("fine" + blanks.substring(5) + "1", FINE);
        fault("fine" + blanks.substring(8) + "9999", FINE);
        fault("fine" + blanks.substring(9) + "10000", 91);
        fault("fine 1" + blanks.substring(6), FINE);
        fault("fine (" + blanks.substring(8) + "t)", FINE);
    }

    private static String times(String sign, int many) {
        return sign.repeat(many);
    }

    /** "The ninth ( that would be open within others." */
    private static void brackets() {
        for (int open = 0; open <= 12; open++) {
            String tape = "fine " + times("(", open) + "7" + times(")", open);
            fault(tape, open <= 8 ? FINE : 13);
            fault("fine 1+" + tape.substring(5), open <= 8 ? FINE : 15);
            fault("fine (1)+" + tape.substring(5), open <= 8 ? FINE : 17);
            fault("fine (1+" + tape.substring(5) + ")", open <= 7 ? FINE : 15);
            fault("fine " + times("!", 8) + tape.substring(5), open <= 8 ? FINE : 21);
        }
        Due.be("eight", given("((((((((7))))))))"), 7);
        fault("fine ((((((((1))))))))+((((((((1))))))))", FINE);
        fault("fine ((((((((1)+(1)))))))+1)", FINE);
        fault("fine ((((((((1)+((1))))))))+1)", 17);
        fault("fine (1))", 8);
        fault("fine 1)", 6);
        fault("fine ((1)", 9);
        fault("fine ()", 6);
        fault("fine (((((((((", 13);
        fault("fine ((((((((", 13);
    }

    /** "The ninth ! likewise, each by itself." */
    private static void nots() {
        for (int open = 0; open <= 12; open++) {
            String tape = "fine " + times("!", open) + "7";
            fault(tape, open <= 8 ? FINE : 13);
            fault("fine !1+" + tape.substring(5), open <= 8 ? FINE : 16);
            fault("fine !(" + tape.substring(5) + ")", open <= 7 ? FINE : 14);
            fault("fine ((((((((" + tape.substring(5) + "))))))))", open <= 8 ? FINE : 21);
            fault("fine !" + times("(", 8) + tape.substring(5) + "))))))))", open <= 7 ? FINE : 21);
        }
        Due.be("eight of 7", given("!!!!!!!!7"), 1);
        Due.be("seven of 7", given("!!!!!!!7"), 0);
        fault("fine !!!!!!!!1*!!!!!!!!1<!!!!!!!!1", FINE);
        fault("fine !(!!!!!!!1)*!!!!!!!!1", FINE);
        fault("fine !(!!!!!!!1*!!!!!!!!1)", 23);
        fault("fine !!!!!!!!!", 13);
        fault("fine !!!!!!!!", 13);
        fault("fine 1!", 6);
    }

    /** "TEST: SUM [ (< | = | >) SUM ]": one alone within its brackets, more by & and |. */
    private static void oneTestAlone() {
        for (char first : "<=>".toCharArray()) {
            for (char second : "<=>".toCharArray()) {
                fault("fine 1" + first + "2" + second + "3", 8);
                fault("fine 1" + first + "2&3" + second + "4", FINE);
                fault("fine 1" + first + "2|3" + second + "4", FINE);
                fault("fine (1" + first + "2)" + second + "3", FINE);
                fault("fine 1" + first + "(2" + second + "3)", FINE);
                fault("fine 1" + first + "" + second + "3", 7);
            }
            fault("fine " + first + "1", 5);
            fault("fine 1" + first, 7);
        }
    }

    /** "/ cuts towards 0", rests of both signs. */
    private static void halvesAreCut() {
        String[] e = {"7/2", "(0-7)/2", "7/(0-2)", "(0-7)/(0-2)", "1/2", "(0-1)/2", "1/(0-2)", "9999/9998", "9998/9999",
            "0/5", "0/(0-5)", "6/3", "7/7", "7/8"};
        int[] due = {3, -3, -3, 3, 0, 0, 0, 1, 0, 0, 0, 2, 1, 0};
        for (int i = 0; i < e.length; i++) {
            Due.be(e[i], given(e[i]), due[i]);
        }
    }

    /** "/ is 0 by 0." */
    private static void nothingByNothing() {
        for (String e : new String[] {"0/0", "1/0", "9999/0", "(0-1)/0", "1/(2-2)", "5/t", "(0-4096)*4096*128/0", "1/0/0"}) {
            Due.be(e, given(e), 0);
        }
        Due.be("7/0+5", given("7/0+5"), 5);
        Due.be("7/1", given("7/1"), 7);
        Due.be("7/(0-1)", given("7/(0-1)"), -7);
    }

    /** "Ints wrap." */
    private static void intsWrap() {
        String lowest = "(0-4096)*4096*128";
        Due.be("the lowest", given(lowest), LOW);
        Due.be("one less", given(lowest + "-1"), HIGH);
        Due.be("one more than the highest", given("(" + lowest + "-1)+1"), LOW);
        Due.be("0 less the lowest", given("0-" + lowest), LOW);
        Due.be("the lowest by -1", given(lowest + "/(0-1)"), LOW);
        Due.be("the lowest times -1", given(lowest + "*(0-1)"), LOW);
        Due.be("the highest times 2", given("(" + lowest + "-1)*2"), -2);
        Due.be("9999 * 9999 * 9999", given("9999*9999*9999"), 9999 * 9999 * 9999);
        Due.be("what wraps is compared as it is", given(lowest + "-1>0"), 1);
        Due.be("the lowest is below the highest", given(lowest + "<" + lowest + "-1"), 1);
    }

    /** "Tests, & | ! give 1 or 0 (what is not 0 is true ...)." */
    private static void testsGiveOneOrNone() {
        String[] values = {"0", "1", "2", "(0-1)", "9999"};
        int[] v = {0, 1, 2, -1, 9999};
        for (int i = 0; i < v.length; i++) {
            Due.be("!" + values[i], given("!" + values[i]), v[i] == 0 ? 1 : 0);
            for (int k = 0; k < v.length; k++) {
                String pair = values[i] + "%" + values[k];
                Due.be(pair, given(pair.replace('%', '&')), v[i] != 0 && v[k] != 0 ? 1 : 0);
                Due.be(pair, given(pair.replace('%', '|')), v[i] != 0 || v[k] != 0 ? 1 : 0);
                Due.be(pair, given(pair.replace('%', '<')), v[i] < v[k] ? 1 : 0);
                Due.be(pair, given(pair.replace('%', '=')), v[i] == v[k] ? 1 : 0);
                Due.be(pair, given(pair.replace('%', '>')), v[i] > v[k] ? 1 : 0);
            }
        }
    }

    /** "E, the loosest first: OR; AND; TEST; SUM; TERM; PIECE." */
    private static void loosestFirst() {
        String[] e = {"1|1&0", "0&1|1", "1&2<1", "1<2&0", "2<1+2", "2+1<2", "1+2*3", "2*3+1", "!1+1", "!0*5", "!1|1",
            "!1<1", "9-3-2", "9-3+2", "8/4/2", "8/4*2", "8*4/3", "7-2*3", "1=1+0|0", "5&3=3", "0|2>1"};
        int[] due = {1, 1, 0, 0, 1, 0, 7, 7, 1, 5, 1, 1, 4, 8, 1, 4, 10, 1, 1, 1, 1};
        for (int i = 0; i < e.length; i++) {
            Due.be(e[i], given(e[i]), due[i]);
        }
    }

    /** "TEXTS, 14 at most, numbered from 0." */
    private static void fourteenTexts() {
        RopeFerry x = new RopeFerry();
        String[] keys = {"toll ", "pull ", "fine "};
        for (int text = 0; text < 14; text++) {
            Due.be("none of that number", x.textTold(text, 0), BAD);
            Due.be("its number", Tape.tell(x, keys[text % 3] + text), text);
            Due.be("how many", x.count(4), text + 1);
            Due.be("its KEY", x.textTold(text, 0), text % 3);
            Due.be("none behind it", x.textTold(text + 1, 0), BAD);
        }
        Due.be("the fifteenth", Tape.tell(x, "fine 99"), FULL);
        Due.be("fourteen stay", x.count(4), 14);
        Due.row("and those that count", new int[] {x.why(0), x.why(1), x.why(2)}, 12, 13, 11);
        Due.be("fine 11", x.fine(), 11);
        Due.be("pull 13", x.pull(0), 13);
    }

    /** "Of a KEY that TEXT counts that was told last." */
    private static void toldLast() {
        RopeFerry x = new RopeFerry();
        int[] due = {NONE, NONE, NONE};
        int[] order = {2, 2, 0, 1, 2, 0, 0, 1, 1, 2};
        String[] keys = {"toll ", "pull ", "fine "};
        for (int text = 0; text < order.length; text++) {
            Due.row("ahead of TEXT " + text, new int[] {x.why(0), x.why(1), x.why(2)}, due);
            Tape.tell(x, keys[order[text]] + (100 + text));
            due[order[text]] = text;
            Tape.tell(x, keys[order[text]] + ")");
        }
        Due.row("behind all", new int[] {x.why(0), x.why(1), x.why(2)}, 6, 8, 9);
        Due.be("fine", x.fine(), 109);
        Due.be("pull", x.pull(0), 108);
        x.load(0, 1, 0);
        Due.be("toll", x.told(0, 5), 106);
        for (int wrong : new int[] {-1, 3, LOW, HIGH}) {
            Due.be("no such KEY", x.why(wrong), BAD);
        }
    }

    /** "How many NUMBERS and NAMES it has": one at least, as many as the tape holds at most. */
    private static void howManyPieces() {
        String[] e = {"1", "t", "9999", "!1", "((1))", "1+t", "t+t+t", "t*(1-p)<12&!t|0", "!!!(((7)))"};
        int[] due = {1, 1, 1, 1, 1, 2, 3, 6, 1};
        for (int i = 0; i < e.length; i++) {
            RopeFerry x = new RopeFerry();
            Tape.tell(x, "fine " + e[i]);
            Due.be("pieces of " + e[i], x.textTold(0, 1), due[i]);
        }
        RopeFerry x = new RopeFerry();
        Due.be("the longest", Tape.tell(x, "fine(t)" + times("|1", 44) + " "), 0);
        Due.be("its pieces", x.textTold(0, 1), 45);
        Due.be("more behind an opening", Tape.tell(x, "fine t" + times("-1", 45)), 1);
        Due.be("its pieces", x.textTold(1, 1), 46);
        Due.be("what it gives", x.fine(), -45);
        for (int wrong : new int[] {-1, 2, LOW, HIGH}) {
            Due.be("no such thing", x.textTold(0, wrong), BAD);
            Due.be("no such TEXT", x.textTold(wrong, 0), BAD);
        }
    }

    /** A FAULT leaves what counts as it was. */
    private static void whatIsNoText() {
        RopeFerry x = new RopeFerry();
        Tape.tell(x, "fine 5");
        for (String tape : new String[] {"fine 6)", "fine 6+", "fine 66666", "fine (6", "fine6", ""}) {
            Tape.tell(x, tape);
            Due.be("it counts still, not " + tape, x.fine(), 5);
            Due.be("one TEXT", x.count(4), 1);
            Due.be("one TEXT", x.why(2), 0);
        }
    }
}
