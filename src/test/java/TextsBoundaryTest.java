import java.io.IOException;

/** The sentences about texts that name a boundary: Texts, and the promises 17 to 20. */
public final class TextsBoundaryTest extends Sentences {
    private static final String DIGITS = "0123456789";
    private static final String KINDS = "+-abcp";

    public static void main(String[] args) throws IOException {
        new TextsBoundaryTest().runAll();
    }

    private static EqualHeights padOf(String text) {
        EqualHeights x = new EqualHeights();
        write(x, text);
        return x;
    }

    private void faultDue(String text, int fault) {
        due("fault of " + text, faultOf(text), fault);
    }

    /** After these characters only those told can stand, of all that can be put; none of them ends the text wrongly. */
    private void canFollow(String before, String allowed) {
        for (char next = 33; next <= 126; next++) {
            int fault = faultOf(before + next);
            if (allowed.indexOf(next) < 0) {
                due("fault of " + before + next, fault, before.length());
            } else {
                holds("fault of " + before + next + " is not " + fault, fault == -6 || fault == before.length() + 1);
            }
        }
    }

    private static void fill(EqualHeights x, int length) {
        for (int i = 0; i < length / 8; i++) {
            x.put(Check.numbersOf("aaaaaaaa")[0]);
        }
        for (int i = 0; i < length % 8; i++) {
            x.put('a');
        }
    }

    // ---- Texts

    @Sentence(of = "Texts", says = "The pad is a text of at most 80 characters")
    void eightyCharacters() {
        EqualHeights x = new EqualHeights();
        fill(x, 79);
        due("length 79", x.count(13), 79);
        due("two too many", x.put(0x6161), -4);
        due("the last one", x.put('a'), 80);
        due("one too many", x.put('a'), -4);
        due("length 80", x.count(13), 80);
        due("wiped", x.wipe(), 80);
        due("room again", x.put('a'), 1);
    }

    @Sentence(of = "Texts", says = "text = order { \";\" order }")
    void ordersWithSeparators() {
        faultDue("a", -6);
        faultDue("a;a", -6);
        faultDue(";", 0);
        faultDue(";a", 0);
        faultDue("a;", 2);
        faultDue("a;;a", 2);
        faultDue("aa", 1);
        canFollow("", KINDS);
        canFollow("a;", KINDS);
        canFollow("a", ";");
        EqualHeights x = tableOf(1);
        for (int i = 0; i < 39; i++) {
            write(x, "a;");
        }
        write(x, "a");
        due("forty orders in 79 characters", x.fault(), -6);
        due("all of them", x.carryOut(), 40);
    }

    @Sentence(of = "Texts", says = "order = \"+\" number \",\" number [ \"*\" digit ] | \"-\" number | \"a\" | \"b\" number | "
        + "\"c\" number | \"p\" number")
    void whatCanFollowInAnOrder() {
        canFollow("+", DIGITS);
        canFollow("+0", ",");
        canFollow("+5", DIGITS + ",");
        canFollow("+10", ",");
        canFollow("+99", ",");
        canFollow("+1,", DIGITS);
        canFollow("+1,0", "*;");
        canFollow("+1,5", DIGITS + "*;");
        canFollow("+1,10", "*;");
        canFollow("+1,99", "*;");
        canFollow("+1,2*", "123456789");
        canFollow("+1,2*1", ";");
        canFollow("+1,2*9", ";");
        canFollow("+1,2*3;", KINDS);
        for (String kind : new String[] {"-", "b", "c", "p"}) {
            canFollow(kind, DIGITS);
            canFollow(kind + "0", ";");
            canFollow(kind + "5", DIGITS + ";");
            canFollow(kind + "10", ";");
            canFollow(kind + "99", ";");
            canFollow(kind + "1;", KINDS);
        }
    }

    @Sentence(of = "Texts", says = "\"+\": insert() a row, as often as told (once, if it is left out; a digit is 1 to 9;")
    void asOftenAsTold() {
        for (int times = 1; times <= 9; times++) {
            EqualHeights x = padOf("+3,4*" + times);
            due("one order *" + times, x.carryOut(), 1);
            due("rows *" + times, x.count(0), times);
            due("first row", x.row(0, 0), 3);
            due("last row", x.row(times - 1, 1), 4);
        }
        EqualHeights once = padOf("+0,99");
        due("left out", once.carryOut(), 1);
        due("once", once.count(0), 1);
        due("column 0", once.row(0, 0), 0);
        due("column 1", once.row(0, 1), 99);
        EqualHeights again = padOf("+1,1*3;+2,2");
        again.carryOut();
        due("once, also after one with a digit", again.count(0), 4);
        faultDue("+1,1*0", 5);
        faultDue("+1,1*", 5);
        faultDue("+1,1*10", 6);
    }

    @Sentence(of = "Texts", says = "if there is not room for all of them, those for which there was stay, and the order returns "
        + "the error")
    void notRoomForAll() {
        for (int rows = 51; rows <= 60; rows++) {
            EqualHeights x = tableOfRows(rows);
            boolean room = rows + 9 <= 60;
            due(rows + " rows and 9", carriedOut(x, "+98,99*9;b9"), room ? 2 : 0);
            due(rows + " rows and 9, then", x.count(0), 60);
            due("the last row", x.row(59, 1), rows < 60 ? 99 : 59);
            due("what stands behind it", x.count(9), room ? 9 : 4);
            due("the pad is empty", x.count(13), 0);
            due("undo", x.undo(), 5);
            due("none of them is left", x.count(0), rows);
        }
        EqualHeights one = tableOfRows(59);
        due("room for one", carriedOut(one, "+1,1;-0;+1,1;+1,1;b9"), 3);
        due("up to the error", one.count(0), 60);
        due("nothing behind it", one.count(9), 4);
        EqualHeights x = tableOfRows(58);
        x.analyse();
        carriedOut(x, "+1,1*3");
        due("those that stay came", x.count(2), 2);
    }

    @Sentence(of = "Texts", says = "\"-\": remove() a row")
    void removeAsAnOrder() {
        EqualHeights x = tableOf(10, 11, 12);
        due("the last, the first, the only one", carriedOut(x, "-2;-0;-0"), 3);
        due("none is left", x.count(0), 0);
        EqualHeights y = tableOf(10, 11, 12);
        due("no row 3", carriedOut(y, "-3;-0"), 0);
        due("all are left", y.count(0), 3);
        due("no row 99", carriedOut(y, "-0;-99;-0"), 1);
        due("two are left", y.row(0, 0), 11);
        EqualHeights full = tableOfRows(60);
        due("no row 60", carriedOut(full, "-60"), 0);
        due("row 59", carriedOut(full, "-59"), 1);
    }

    @Sentence(of = "Texts", says = "\"a\": analyse(); \"b\", \"c\", \"p\": set() of BUCKETS, COMMON, PAIRS.")
    void analyseAndSetAsOrders() {
        due("analyse without rows", padOf("a;+1,1").carryOut(), 0);
        due("analyse with a row", padOf("+1,1;a").carryOut(), 2);
        String[] kinds = {"b", "c", "p"};
        int[] least = {1, 0, 0};
        int[] greatest = {10, 6, 6};
        for (int setting = 0; setting < 3; setting++) {
            EqualHeights x = new EqualHeights();
            due(kinds[setting] + " of the least", carriedOut(x, kinds[setting] + least[setting]), 1);
            due("it is set", x.count(9 + setting), least[setting]);
            due(kinds[setting] + " of the greatest", carriedOut(x, kinds[setting] + greatest[setting]), 1);
            due("it is set", x.count(9 + setting), greatest[setting]);
            due("too large", carriedOut(x, kinds[setting] + (greatest[setting] + 1) + ";+1,1"), 0);
            due("far too large", carriedOut(x, kinds[setting] + "99;+1,1"), 0);
            due("too small", carriedOut(x, kinds[setting] + "0;+1,1"), setting == 0 ? 0 : 2);
            due("what is set then", x.count(9 + setting), setting == 0 ? 10 : 0);
            due("STALE stays", x.count(12), 20);
        }
    }

    @Sentence(of = "Texts", says = "A number is 0 to 99, without leading zeros.")
    void numbersFromZeroTo99() {
        for (int number = 0; number <= 99; number++) {
            EqualHeights x = padOf("+" + number + "," + (99 - number));
            due("no fault with " + number, x.fault(), -6);
            due("carried out with " + number, x.carryOut(), 1);
            due("column 0", x.row(0, 0), number);
            due("column 1", x.row(0, 1), 99 - number);
        }
        String[] starts = {"-", "b", "c", "p", "+1,"};
        for (String start : starts) {
            for (String number : new String[] {"0", "9", "10", "99"}) {
                faultDue(start + number, -6);
            }
            faultDue(start + "00", start.length() + 1);
            faultDue(start + "01", start.length() + 1);
            faultDue(start + "100", start.length() + 2);
            faultDue(start + "990", start.length() + 2);
        }
        faultDue("+00,1", 2);
        faultDue("+01,1", 2);
        faultDue("+100,1", 3);
    }

    @Sentence(of = "Texts", says = "The fault is the index of the first character that cannot stand at its place when the text "
        + "is read from left to right (also of a digit by which a number would be above 99)")
    void firstCharacterThatCannotStand() {
        faultDue("x", 0);
        faultDue("ax", 1);
        faultDue("xx", 0);
        faultDue("+1,2x;x", 4);
        faultDue("a;a;x;x", 4);
        faultDue("-100", 3);
        faultDue("-1000", 3);
        faultDue("+1,100", 5);
        faultDue("+100,100", 3);
        faultDue("p999;x", 3);
        faultDue("b0;c9;-99;x", 10);
        EqualHeights x = new EqualHeights();
        for (int i = 0; i < 39; i++) {
            write(x, "a;");
        }
        write(x, "ax");
        due("the last of 80 characters", x.fault(), 79);
    }

    @Sentence(of = "Texts", says = "if there is none and the text ends too early (also if it is empty), it is the length of "
        + "the text.")
    void textEndsTooEarly() {
        faultDue("", 0);
        for (String text : new String[] {"+", "+1", "+12", "+1,", "+1,2*", "-", "b", "c", "p", "a;", "a;+9,9;", "a;-"}) {
            faultDue(text, text.length());
        }
        for (String text : new String[] {"+1,2", "+1,20", "-1", "b1", "a"}) {
            faultDue(text, -6);
        }
        EqualHeights x = new EqualHeights();
        for (int i = 0; i < 40; i++) {
            write(x, "a;");
        }
        due("after 80 characters", x.fault(), 80);
    }

    // ---- Promise 17: put

    @Sentence(of = "Promise 17", says = "its lowest 8 bits are the last character, the next 8 bits the one before, and so on")
    void theLastCharacterIsLowest() {
        EqualHeights x = new EqualHeights();
        due("-5", x.put(0x2D35), 2);
        due("no fault", x.fault(), -6);
        due("eight characters", x.put(0x3B2B312C322A333BL), 10);
        due("the next ones come behind", x.put(0x6239), 12);
        due("-5;+1,2*3;b9", x.fault(), -6);
        x.insert(9, 9);
        x.insert(9, 9);
        due("no row 5", x.carryOut(), 0);
        due("again", x.put(0x2D313B2B312C322AL), 8);
        due("again", x.put(0x333B6239L), 12);
        due("-1;+1,2*3;b9", x.carryOut(), 3);
        due("rows", x.count(0), 4);
        due("BUCKETS", x.count(9), 9);
        EqualHeights turned = new EqualHeights();
        turned.put(0x352D);
        due("5-", turned.fault(), 0);
    }

    @Sentence(of = "Promise 17", says = "8 bits that are 0 mean that there are no more characters, and everything above them "
        + "has to be 0, too.")
    void nothingAboveTheEnd() {
        long eight = 0x6161616161616161L;
        for (int characters = 1; characters < 8; characters++) {
            EqualHeights x = new EqualHeights();
            long some = eight >>> 64 - 8 * characters;
            due(characters + " characters", x.put(some), characters);
            for (int bit = 8 * characters + 8; bit < 64; bit++) {
                due(characters + " characters, and bit " + bit, x.put(some | 1L << bit), -2);
            }
            due("none of them came", x.count(13), characters);
        }
        due("no character, and one above", new EqualHeights().put(0x6100), -2);
        due("no characters, and the highest bit", new EqualHeights().put(MIN * 0x100000000L), -2);
    }

    @Sentence(of = "Promise 17", says = "characters: 1 to 8 characters")
    void oneToEightCharacters() {
        EqualHeights x = new EqualHeights();
        due("none", x.put(0), -2);
        due("one", x.put(0x61), 1);
        due("two", x.put(0x6161), 3);
        due("seven", x.put(0x61616161616161L), 10);
        due("eight", x.put(0x6161616161616161L), 18);
    }

    @Sentence(of = "Promise 17", says = "BAD_VALUE if there is no character, a code is not 33 to 126, or a bit above 8 bits that "
        + "are 0 is not 0")
    void codesFrom33To126() {
        long eight = 0x6161616161616161L;
        for (int place = 0; place < 8; place++) {
            long others = eight & ~(255L << 8 * place);
            for (int code = 1; code < 256; code++) {
                EqualHeights x = new EqualHeights();
                boolean good = code >= 33 && code <= 126;
                due("code " + code + " at place " + place, x.put(others | (long) code << 8 * place), good ? 8 : -2);
                due("length then", x.count(13), good ? 8 : 0);
            }
        }
        due("code 32 alone", new EqualHeights().put(32), -2);
        due("code 33 alone", new EqualHeights().put(33), 1);
        due("code 126 alone", new EqualHeights().put(126), 1);
        due("code 127 alone", new EqualHeights().put(127), -2);
        due("code 255 alone", new EqualHeights().put(255), -2);
        due("all bits", new EqualHeights().put(-1), -2);
        due("the least number", new EqualHeights().put(Long.MIN_VALUE), -2);
        due("the greatest number", new EqualHeights().put(Long.MAX_VALUE), -2);
    }

    @Sentence(of = "Promise 17", says = "Returns the length of the pad then")
    void lengthThen() {
        EqualHeights x = new EqualHeights();
        int length = 0;
        for (int more = 1; more <= 8; more++) {
            length += more;
            due(more + " more", x.put(0x6161616161616161L >>> 64 - 8 * more), length);
            due("count(13)", x.count(13), length);
        }
    }

    @Sentence(of = "Promise 17", says = "TOO_MANY if the pad would be longer than 80.")
    void padWouldBeTooLong() {
        for (int more = 1; more <= 8; more++) {
            long some = 0x6161616161616161L >>> 64 - 8 * more;
            EqualHeights x = new EqualHeights();
            fill(x, 81 - more);
            due(more + " more than " + (81 - more), x.put(some), -4);
            due("none of them came", x.count(13), 81 - more);
            EqualHeights y = new EqualHeights();
            fill(y, 80 - more);
            due(more + " more than " + (80 - more), y.put(some), 80);
        }
        EqualHeights full = new EqualHeights();
        fill(full, 80);
        due("a bad value of a full pad", full.put(32), -2);
        due("no character of a full pad", full.put(0), -2);
        due("one character of a full pad", full.put(33), -4);
    }

    // ---- Promise 18: wipe

    @Sentence(of = "Promise 18", says = "Empties the pad, and returns the length that it had.")
    void wipeOfEveryLength() {
        EqualHeights x = new EqualHeights();
        due("an empty pad", x.wipe(), 0);
        for (int length : new int[] {1, 8, 79, 80}) {
            fill(x, length);
            due("a pad of " + length, x.wipe(), length);
            due("length then", x.count(13), 0);
            due("fault then", x.fault(), 0);
            due("again", x.wipe(), 0);
        }
        due("it is no change", x.count(14), 0);
    }

    // ---- Promise 19: fault

    @Sentence(of = "Promise 19", says = "Returns the fault of the pad, NONE if there is none.")
    void faultOrNone() {
        EqualHeights x = new EqualHeights();
        due("empty", x.fault(), 0);
        write(x, "-");
        due("too early", x.fault(), 1);
        write(x, "1");
        due("none", x.fault(), -6);
        due("asked again", x.fault(), -6);
        write(x, "x");
        due("wrong", x.fault(), 2);
        due("asked again", x.fault(), 2);
        due("the pad stays", x.count(13), 3);
        x.wipe();
        due("wiped", x.fault(), 0);
    }

    // ---- Promise 20: carryOut

    @Sentence(of = "Promise 20", says = "Carries the orders of the pad out, one after the other, up to the first one that returns "
        + "an error, and empties the pad.")
    void upToTheFirstError() {
        String[] failing = {"-9", "b0", "b11", "c7", "p7"};
        for (String wrong : failing) {
            EqualHeights first = padOf(wrong + ";+1,1;+2,2");
            due("first " + wrong, first.carryOut(), 0);
            due("no rows", first.count(0), 0);
            due("the pad is empty", first.count(13), 0);
            EqualHeights middle = padOf("+1,1;" + wrong + ";+2,2");
            due("in the middle " + wrong, middle.carryOut(), 1);
            due("one row", middle.count(0), 1);
            due("the pad is empty", middle.count(13), 0);
            EqualHeights last = padOf("+1,1;+2,2;" + wrong);
            due("last " + wrong, last.carryOut(), 2);
            due("two rows", last.count(0), 2);
            due("the pad is empty", last.count(13), 0);
            due("nothing is carried out again", last.carryOut(), -3);
        }
        EqualHeights all = padOf("+1,1;+2,2;-1");
        due("no error", all.carryOut(), 3);
        due("one after the other", all.row(0, 0), 1);
        due("the pad is empty", all.wipe(), 0);
        due("one order alone", padOf("b10").carryOut(), 1);
    }

    @Sentence(of = "Promise 20", says = "This is a change (one, with all of them; also if none is carried out).")
    void oneChangeWithAllOrders() {
        EqualHeights none = padOf("-0;+1,1");
        due("none is carried out", none.carryOut(), 0);
        due("one change", none.count(14), 1);
        due("undone", none.undo(), 0);
        EqualHeights one = padOf("+1,1");
        one.carryOut();
        due("one change", one.count(14), 1);
        EqualHeights many = padOf("+1,1*9;+2,2*9;a;b3;c0;p6;-0;-0;-0;a");
        due("many are carried out", many.carryOut(), 10);
        due("one change", many.count(14), 1);
        due("undone at once", many.undo(), 0);
        due("rows", many.count(0), 0);
        due("BUCKETS", many.count(9), 4);
        due("no analysis", many.count(1), 0);
        EqualHeights full = tableOfRows(8);
        due("six changes", full.count(14), 6);
        carriedOut(full, "-9");
        due("none is carried out, the oldest one is dropped", full.count(14), 6);
        for (int left = 5; left >= 0; left--) {
            due("undo", full.undo(), left);
        }
        due("three rows stay", full.count(0), 3);
    }

    @Sentence(of = "Promise 20", says = "Returns how many orders were carried out")
    void howManyOrders() {
        EqualHeights x = new EqualHeights();
        due("none of one", carriedOut(x, "a"), 0);
        due("one of one", carriedOut(x, "+1,1"), 1);
        due("one, however many rows come", carriedOut(x, "+1,1*9"), 1);
        due("two of two", carriedOut(x, "a;-0"), 2);
        due("none of two", carriedOut(x, "-9;-0"), 0);
        due("one of two", carriedOut(x, "-8;-8"), 1);
        due("forty of forty", carriedOut(x, "a" + ";a".repeat(39)), 40);
        due("27 of 27, in 79 characters", carriedOut(x, "c0;".repeat(26) + "a"), 27);
        due("26 of 27, in 80 characters", carriedOut(x, "c0;".repeat(26) + "b0"), 26);
    }

    @Sentence(of = "Promise 20", says = "BAD_TEXT if the pad has a fault (then it stays).")
    void padWithAFaultStays() {
        for (String text : new String[] {"", "x", "+1,1;", "+1,1;x", "a;b100", "+1,1*0"}) {
            EqualHeights x = tableOf(5);
            write(x, text);
            due("carryOut of " + text, x.carryOut(), -3);
            due("the pad stays", x.count(13), text.length());
            due("no row came", x.count(0), 1);
            due("no change", x.count(14), 1);
        }
        EqualHeights x = padOf("+1,2;");
        due("a fault", x.carryOut(), -3);
        write(x, "+3,4");
        due("what stayed is carried out", x.carryOut(), 2);
        due("the first row", x.row(0, 1), 2);
        due("the second row", x.row(1, 1), 4);
    }
}
