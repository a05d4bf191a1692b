/** Edges of THE TAPE, THE CONTRACT and fines: promises 33 to 37. */
public final class EdgesOfContractsTest extends Edges {
    private static final String BY = "by van over 1 pays 2 each 3;";

    private EdgesOfContractsTest() {}

    public static void main(String[] args) throws Exception {
        run(EdgesOfContractsTest.class);
    }

    /** What read() answers to a TEXT whose FAULT is behind some right bytes. */
    private static void fault(String right, String rest) {
        due(text(right + rest), -100 - right.length());
    }

    private static void line(int i, int... want) {
        for (int what = 0; what < 5; what++) {
            due(x.line(i, what), want[what]);
        }
    }

    private static void parts(int person, int... want) {
        for (int cause = 0; cause < 5; cause++) {
            due(x.part(person, 0, cause, 1439), want[cause]);
        }
    }

    /** A man who CAME at 650, DUE at 600, and VAN 0. */
    private static void late50() {
        men(1);
        x.van(0, 1, starts(300, 420));
        x.enter(0, 1, 650, 2);
    }

    // ---- THE TAPE

    @Says("n bytes (1 to 8) come to THE TAPE")
    static void oneToEightBytes() {
        all(-1, n -> x.feed(0L, n), MIN, -1, 0, 9, MAX);
        due(x.many(9), 0);
        due(x.feed(0L, 1), 1);
        due(x.feed(0L, 8), 9);
        due(x.many(9), 9);
    }

    @Says("the lowest of eight first: how many it has")
    static void theLowestByteFirst() {
        // "free 1 ;" with the ";" highest
        long line = 0x3B20312065657266L;
        due(x.feed(line, 8), 8);
        due(x.read(), 1);
        line(0, 1, 0, 1, -9, -9);
        // what is above n bytes isn't taken
        due(x.feed(line, 7), 7);
        due(x.read(), -107);
        due(x.feed(0xFFFFFFFFFFFFFF20L, 1), 1);
        due(x.read(), 0);
        // a byte above 127 is one byte, too
        due(x.feed(0xFF20202020202020L, 8), 8);
        due(x.read(), -107);
        due(x.feed(Long.MIN_VALUE, 8), 8);
        due(x.read(), -100);
    }

    @Says("THE TAPE takes bytes, 200 at most; read() uses it up.")
    static void twoHundredBytes() {
        for (int i = 0; i < 24; i++) {
            due(x.feed(0x2020202020202020L, 8), 8 * i + 8);
        }
        due(x.feed(0x20L, 1), 193);
        due(x.feed(0x2020202020202020L, 8), -2);
        due(x.many(9), 193);
        due(x.feed(0x20202020202020L, 7), 200);
        for (int n = 1; n <= 8; n++) {
            due(x.feed(0x20L, n), -2);
        }
        due(x.many(9), 200);
        // what is no number of bytes is BAD ahead of FULL
        all(-1, n -> x.feed(0L, n), 0, 9);
        due(x.read(), 0);
        due(x.many(9), 0);
        due(x.feed(0x20L, 1), 1);
    }

    @Says("THE TAPE takes bytes, 200 at most; read() uses it up.")
    static void aTextOfTwoHundredBytes() {
        String blanks = " ".repeat(200 - BY.length());
        due(text(blanks + BY), 1);
        line(0, 0, 1, 1, 2, 3);
        due(text(BY + blanks), 1);
        // one byte less than a LINE: the end is the place 200
        due(text(blanks + " " + BY.substring(0, BY.length() - 1)), -300);
        // the last byte is wrong
        due(text(BY + blanks.substring(1) + "!"), -299);
        due(text(blanks + BY.replace(';', '!')), -299);
    }

    @Says("such a call changes nothing (but that THE TAPE is used up)")
    static void aFaultUsesTheTapeUp() {
        due(text("free 7;"), 1);
        feed("free 8");
        due(x.many(9), 6);
        due(x.read(), -106);
        due(x.many(9), 0);
        due(x.many(8), 1);
        line(0, 1, 0, 7, -9, -9);
        due(text("most 1;most 2;free"), -118);
        due(x.many(8), 1);
        line(0, 1, 0, 7, -9, -9);
    }

    @Says("THE TAPE is the TEXT of THE CONTRACT (at first one of an empty TEXT): how many LINES")
    static void anEmptyTextHasNoLines() {
        due(x.many(8), 0);
        due(x.read(), 0);
        due(text("free 7;"), 1);
        due(x.many(8), 1);
        due(x.read(), 0);
        due(x.many(8), 0);
        due(text("free 7;"), 1);
        due(text(" "), 0);
        due(x.many(8), 0);
    }

    // ---- TEXT

    @Says("TEXT: { LINE ; }")
    static void eachLineEndsWithASemicolon() {
        due(text("free 1;most 2;"), 2);
        fault("", ";");
        fault("free 1;", ";");
        fault("free 1", "");
        fault("free 1 ", "most 2;");
        fault("free 1", ",");
        fault("free 1;most 2", "");
        due(x.many(8), 2);
        // behind the last ";" nothing must come
        due(text("free 1;"), 1);
        due(text("free 1; "), 1);
    }

    @Says("LINE: by CAUSES over N pays N each N | free N | most N")
    static void aLineInOrder() {
        due(text(BY), 1);
        fault("", "van over 1 pays 2 each 3;");
        fault("", "7;");
        fault("by ", "over 1 pays 2 each 3;");
        fault("by van ", "pays 2 each 3;");
        fault("by van ", "1 pays 2 each 3;");
        fault("by van over ", "pays 2 each 3;");
        fault("by van over 1 ", "2 each 3;");
        fault("by van over 1 ", "each 3;");
        fault("by van over 1 pays ", "each 3;");
        fault("by van over 1 pays 2 ", "3;");
        fault("by van over 1 pays 2 ", ";");
        fault("by van over 1 pays 2 each ", ";");
        fault("by van over 1 pays 2 each 3 ", "4;");
        fault("by van over 1 pays 2 each 3 ", "by");
        fault("free ", ";");
        fault("free ", "van;");
        fault("free 1 ", "2;");
        fault("most ", ";");
        fault("most 1 ", "or;");
    }

    @Says("or the end (how many bytes there are), if more must come")
    static void theEndWhereMoreMustCome() {
        String s = "by van or road over 1 pays 2 each 3;";
        int[] ends = {1, 2, 3, 6, 7, 9, 10, 14, 15, 19, 20, 21, 22, 26, 27, 28, 29, 33, 34, 35};
        for (int end : ends) {
            String head = s.substring(0, end);
            boolean half = head.equals("b");
            due(text(head), half ? -100 : -100 - end);
        }
        // trailing blanks are bytes, too
        fault("by van   ", "");
        fault("free    ", "");
        due(x.many(8), 0);
    }

    @Says("CAUSES: CAUSE { or CAUSE }.")
    static void causesWithOr() {
        due(text("by van or jail or road or court or none over 1 pays 2 each 3;"), 1);
        line(0, 0, 31, 1, 2, 3);
        due(text("by none over 1 pays 2 each 3;"), 1);
        line(0, 0, 16, 1, 2, 3);
        due(text("by road or road over 1 pays 2 each 3;"), 1);
        line(0, 0, 4, 1, 2, 3);
        fault("by ", "or van over 1 pays 2 each 3;");
        fault("by van ", "road over 1 pays 2 each 3;");
        fault("by van or ", "or road over 1 pays 2 each 3;");
        fault("by van or ", "over 1 pays 2 each 3;");
        fault("by van or ", "");
        fault("by ", "by");
    }

    @Says("CAUSE: van | jail | road | court | none.")
    static void eachCause() {
        String[] causes = {"van", "jail", "road", "court", "none"};
        for (int c = 0; c < 5; c++) {
            due(text("by " + causes[c] + " over 1 pays 2 each 3;"), 1);
            line(0, 0, 1 << c, 1, 2, 3);
        }
        fault("by ", "free over 1 pays 2 each 3;");
        fault("by ", "7 over 1 pays 2 each 3;");
    }

    @Says("WORDS are rows of letters a to z")
    static void wordsAreWhole() {
        String[] wrong = {"b", "byy", "fre", "freee", "mos", "mostt", "xby", "Free", "freE"};
        for (String w : wrong) {
            fault("", w + " 1;");
        }
        fault("by ", "va over 1 pays 2 each 3;");
        fault("by ", "vans over 1 pays 2 each 3;");
        fault("by ", "vanjail over 1 pays 2 each 3;");
        fault("by van ", "o road over 1 pays 2 each 3;");
        fault("by van ", "orroad over 1 pays 2 each 3;");
        fault("by van ", "ove 1 pays 2 each 3;");
        fault("by van ", "overs 1 pays 2 each 3;");
        fault("by van over 1 ", "pay 2 each 3;");
        fault("by van over 1 ", "payss 2 each 3;");
        fault("by van over 1 pays 2 ", "eac 3;");
        fault("by van over 1 pays 2 ", "eachs 3;");
        fault("", "byvan over 1 pays 2 each 3;");
        fault("by ", "a over 1 pays 2 each 3;");
        fault("by ", "z over 1 pays 2 each 3;");
    }

    @Says("WORDS are rows of letters a to z")
    static void eachLetterCounts() {
        String right = "free 4;most 5;by van or jail or road or court or none over 1 pays 2 each 3;";
        for (int i = 0; i < right.length(); i++) {
            char c = right.charAt(i);
            if (c < 'a' || c > 'z') {
                continue;
            }
            int first = i;
            while (first > 0 && right.charAt(first - 1) >= 'a') {
                first--;
            }
            x = new CourtVans();
            due(text(right.substring(0, i) + 'q' + right.substring(i + 1)), -100 - first);
            due(text(right.substring(0, i) + (char) (c - 32) + right.substring(i + 1)), -100 - first);
            due(text(right), 3);
        }
    }

    @Says("WORDS are rows of letters a to z")
    static void lettersGoToZ() {
        fault("", "freez 1;");
        fault("", "freea 1;");
        fault("by ", "vanz over 1 pays 2 each 3;");
        fault("by van over 1 ", "z;");
        fault("free 1 ", "z;");
        fault("free 1", "z;");
    }

    @Says("or the end (how many bytes there are), if more must come")
    static void aWordAtTheEndOfAFullTape() {
        String blanks = " ".repeat(196);
        due(text(blanks + "free"), -300);
        due(text(blanks + "frex"), -296);
        due(text(blanks + "  by"), -300);
        due(text(blanks.substring(5) + "free 123 "), -300);
        due(text(blanks.substring(5) + "free 1234"), -296);
    }

    @Says("WORDS are rows of letters a to z")
    static void bytesBesideTheLetters() {
        // ` and { stand beside a and z, / and : beside 0 and 9
        fault("free 1", "`;");
        fault("free 1", "{;");
        fault("free", "`1;");
        fault("free", "{1;");
        fault("free 1", "/;");
        fault("free 1", ":;");
        fault("free ", "/1;");
        fault("free ", ":1;");
        fault("free ", "a;");
        fault("free ", "z;");
    }

    @Says("NUMBERS rows of digits (3 at most), as long as they go")
    static void numbersOfThreeDigits() {
        due(text("free 999;free 000;free 090;free 9;free 0;"), 5);
        line(0, 1, 0, 999, -9, -9);
        line(1, 1, 0, 0, -9, -9);
        line(2, 1, 0, 90, -9, -9);
        line(3, 1, 0, 9, -9, -9);
        line(4, 1, 0, 0, -9, -9);
        fault("free ", "1000;");
        fault("free ", "0000;");
        fault("free ", "0001;");
        fault("free ", "99999999999999999999;");
        // a row that is parted is two NUMBERS
        fault("free 100 ", "0;");
    }

    @Says("blanks (32) between")
    static void blanksAre32() {
        due(text("  by   van  or jail   over  1 pays   2  each 3  ;   "), 1);
        line(0, 0, 3, 1, 2, 3);
        // where WORDS and NUMBERS part by themselves, none is asked for
        due(text("by van over1pays2each3;free1;most2;"), 3);
        for (char c : new char[] {0, 1, 9, 10, 13, 31, 33, 127, 128, 160, 255}) {
            fault("free 1", c + ";");
            fault("free ", c + "1;");
            fault("", c + "free 1;");
            fault("free 1;", "" + c);
        }
    }

    @Says("N: 0 to 999; behind each 1 to 999.")
    static void behindEachFrom1On() {
        due(text("by van over 0 pays 0 each 1;by van over 999 pays 999 each 999;"), 2);
        line(0, 0, 1, 0, 0, 1);
        line(1, 0, 1, 999, 999, 999);
        fault("by van over 1 pays 2 each ", "0;");
        fault("by van over 1 pays 2 each ", "00;");
        fault("by van over 1 pays 2 each ", "000;");
        fault("by van over 1 pays 2 each ", "1000;");
        fault("by van over ", "1000 pays 2 each 3;");
        fault("by van over 1 pays ", "1000 each 3;");
        fault("most ", "1000;");
        due(text("by van over 1 pays 2 each 001;most 0;most 999;"), 3);
    }

    @Says("At most 8 LINES.")
    static void eightLines() {
        String eight = "most 1;most 2;most 3;most 4;most 5;most 6;most 7;most 8;";
        due(text(eight), 8);
        due(x.many(8), 8);
        line(7, 2, 0, 8, -9, -9);
        due(x.line(8, 0), -9);
        due(text(eight + "  "), 8);
        fault(eight, "most 9;");
        fault(eight + " ", "free 9;");
        fault(eight, "by");
        fault(eight, ";");
        fault(eight, "?");
        // the eighth one's fault comes first
        fault(eight.substring(0, 54), "!most 9;");
        due(x.many(8), 8);
    }

    @Says("the place (from 0) of the first byte of the first WORD, NUMBER or other byte with which no TEXT goes on")
    static void theFirstFaultCounts() {
        fault("", "? free");
        fault("free 1; ", "? free x");
        fault("free ", "x; free y;");
        fault("free 1;  ", "xyz");
        fault("free 1;", "\u00e9");
    }

    @Says("Of LINE i of THE CONTRACT: what = 0 its sort (0 by, 1 free, 2 most), 1 CAUSES as bits (0 of others)")
    static void linesWithinTheirNumber() {
        all(-9, i -> x.line(i, 0), MIN, -1, 0, 1, MAX);
        due(text("by van or none over 4 pays 5 each 6;free 7;most 8;"), 3);
        line(0, 0, 17, 4, 5, 6);
        line(1, 1, 0, 7, -9, -9);
        line(2, 2, 0, 8, -9, -9);
        all(-9, i -> x.line(i, 0), MIN, -1, 3, 8, MAX);
        all(-9, what -> x.line(0, what), MIN, -1, 5, MAX);
        due(text("free 1;"), 1);
        due(x.line(1, 0), -9);
    }

    // ---- PARTS

    @Says("(CAME less DUE, 0 at least; 0, if he didn't come)")
    static void lateIs0AtLeast() {
        men(4);
        x.van(0, 1, starts(300, 420));
        x.enter(0, 1, 599, 2);
        x.enter(1, 1, 600, 2);
        x.enter(2, 1, 601, 2);
        parts(0, 0, 0, 0, 0, 0);
        parts(1, 0, 0, 0, 0, 0);
        parts(2, 0, 0, 0, 0, 1);
        parts(3, 0, 0, 0, 0, 0);
        x.delay(0, 0, 1, 9);
        parts(0, 0, 0, 0, 0, 0);
        parts(1, 0, 0, 0, 0, 0);
        parts(2, 0, 1, 0, 0, 0);
        parts(3, 0, 0, 0, 0, 0);
        text("by none or jail over 0 pays 1 each 1;");
        due(x.fine(0, 0, 1439), 0);
        due(x.fine(1, 0, 1439), 0);
        due(x.fine(2, 0, 1439), 1);
        due(x.fine(3, 0, 1439), 0);
    }

    @Says("PARTS of the LATE of a PERSON with a VAN as KNOWN at k")
    static void partsAsKnown() {
        late50();
        x.minutes(9);
        x.enter(0, 1, 630, 2);
        due(x.part(0, 0, 4, 8), 50);
        due(x.part(0, 0, 4, 9), 30);
        text("by none over 0 pays 1 each 1;");
        due(x.fine(0, 0, 8), 50);
        due(x.fine(0, 0, 9), 30);
    }

    @Says("from the VAN's DELAYS that are from CAME on or ahead")
    static void delaysFromCameOnOrAhead() {
        late50();
        x.van(0, 1, starts(300, 420));
        x.delay(0, 651, 0, 5);
        parts(0, 0, 0, 0, 0, 50);
        x.delay(0, 650, 1, 6);
        parts(0, 0, 6, 0, 0, 44);
        x.delay(0, 0, 2, 7);
        parts(0, 0, 6, 7, 0, 37);
        // another VAN's are not
        x.delay(1, 0, 3, 8);
        parts(0, 0, 6, 7, 0, 37);
        due(x.part(0, 1, 3, 1439), 8);
        due(x.part(0, 1, 4, 1439), 42);
    }

    @Says("the latest told first, each as much as it has, till all is told; CAUSE 4 (none) has what is left")
    static void theLatestToldFirst() {
        late50();
        // the latest told is the earliest by minutes
        x.delay(0, 500, 0, 30);
        x.delay(0, 400, 1, 19);
        parts(0, 30, 19, 0, 0, 1);
        x.delay(0, 300, 2, 1);
        parts(0, 30, 19, 1, 0, 0);
        x.delay(0, 200, 3, 2);
        parts(0, 28, 19, 1, 2, 0);
        x.delay(0, 100, 2, 50);
        parts(0, 0, 0, 50, 0, 0);
        x.delay(0, 0, 1, 240);
        parts(0, 0, 50, 0, 0, 0);
    }

    @Says("The latest free N (0 without)")
    static void theLatestFree() {
        late50();
        parts(0, 0, 0, 0, 0, 50);
        text("free 10;");
        parts(0, 0, 0, 0, 0, 40);
        text("free 10;free 3;most 9;");
        parts(0, 0, 0, 0, 0, 47);
        text("free 10;free 0;");
        parts(0, 0, 0, 0, 0, 50);
        text("most 10;");
        parts(0, 0, 0, 0, 0, 50);
    }

    @Says("that many minutes (as many as there are) are taken off first: from what would be CAUSE 4's")
    static void freeFromCause4First() {
        late50();
        x.delay(0, 0, 0, 30);
        parts(0, 30, 0, 0, 0, 20);
        text("free 19;");
        parts(0, 30, 0, 0, 0, 1);
        text("free 20;");
        parts(0, 30, 0, 0, 0, 0);
        text("free 21;");
        parts(0, 29, 0, 0, 0, 0);
        text("free 49;");
        parts(0, 1, 0, 0, 0, 0);
        text("free 50;");
        parts(0, 0, 0, 0, 0, 0);
        text("free 51;");
        parts(0, 0, 0, 0, 0, 0);
        text("free 999;");
        parts(0, 0, 0, 0, 0, 0);
    }

    @Says("then from what those DELAYS would have, the earliest told first")
    static void freeFromTheEarliestTold() {
        late50();
        x.delay(0, 0, 0, 100);
        x.delay(0, 0, 1, 10);
        x.delay(0, 0, 2, 20);
        // it would be 20 of the first, for all is told then
        parts(0, 20, 10, 20, 0, 0);
        text("free 20;");
        parts(0, 0, 10, 20, 0, 0);
        text("free 29;");
        parts(0, 0, 1, 20, 0, 0);
        text("free 31;");
        parts(0, 0, 0, 19, 0, 0);
    }

    @Says("PART of a CAUSE (0 to 4) in the LATE of a PERSON with a VAN, as KNOWN at k. BAD: there is no such PERSON, VAN, CAUSE, MINUTE.")
    static void partsNumbers() {
        men(12);
        all(-1, v -> x.part(0, v, 0, 0), MIN, -1, 0, MAX);
        x.van(0, 1, starts(300, 420));
        all(-1, p -> x.part(p, 0, 0, 0), MIN, -1, 12, MAX);
        all(-1, v -> x.part(0, v, 0, 0), MIN, -1, 1, MAX);
        all(-1, c -> x.part(0, 0, c, 0), MIN, -1, 5, MAX);
        all(-1, k -> x.part(0, 0, 0, k), MIN, -1, 1440, MAX);
        due(x.part(11, 0, 0, 0), 0);
        due(x.part(11, 0, 4, 1439), 0);
    }

    // ---- FINE

    @Says("FINE of a PERSON with a VAN, as KNOWN at k. BAD: there is no such PERSON, VAN, MINUTE.")
    static void finesNumbers() {
        men(12);
        all(-1, v -> x.fine(0, v, 0), MIN, -1, 0, MAX);
        x.van(0, 1, starts(300, 420));
        all(-1, p -> x.fine(p, 0, 0), MIN, -1, 12, MAX);
        all(-1, v -> x.fine(0, v, 0), MIN, -1, 1, MAX);
        all(-1, k -> x.fine(0, 0, k), MIN, -1, 1440, MAX);
        due(x.fine(11, 0, 0), 0);
        due(x.fine(11, 0, 1439), 0);
    }

    @Says("of its minutes those over the first N, parted by the third N, up, times the second N")
    static void overPartedUp() {
        late50();
        due(x.fine(0, 0, 0), 0);
        text("by none over 51 pays 7 each 3;");
        due(x.fine(0, 0, 0), 0);
        text("by none over 50 pays 7 each 3;");
        due(x.fine(0, 0, 0), 0);
        text("by none over 49 pays 7 each 3;");
        due(x.fine(0, 0, 0), 7);
        text("by none over 47 pays 7 each 3;");
        due(x.fine(0, 0, 0), 7);
        text("by none over 46 pays 7 each 3;");
        due(x.fine(0, 0, 0), 14);
        text("by none over 0 pays 999 each 1;");
        due(x.fine(0, 0, 0), 49950);
        text("by none over 0 pays 999 each 999;");
        due(x.fine(0, 0, 0), 999);
        text("by none over 0 pays 0 each 1;");
        due(x.fine(0, 0, 0), 0);
        text("by none over 999 pays 999 each 1;");
        due(x.fine(0, 0, 0), 0);
    }

    @Says("for each CAUSE the first LINE that names it")
    static void theFirstLineThatNamesIt() {
        late50();
        x.delay(0, 0, 0, 20);
        text("by van over 30 pays 9 each 1;by van or none over 0 pays 1 each 1;by none over 0 pays 500 each 1;");
        // the first LINE that names CAUSE 0 asks for nothing of 20 minutes, and no other one does
        due(x.fine(0, 0, 0), 30);
        text("by jail or road or court over 0 pays 9 each 1;free 5;most 700;");
        due(x.fine(0, 0, 0), 0);
    }

    @Says("all CAUSES together")
    static void allCausesTogether() {
        late50();
        x.delay(0, 0, 0, 1);
        x.delay(0, 0, 1, 2);
        x.delay(0, 0, 2, 3);
        x.delay(0, 0, 3, 4);
        text("by van or jail or road or court or none over 1 pays 2 each 2;");
        // 0, 1, 2, 3 and 39 minutes over: 0, 1, 1, 2 and 20 times
        due(x.fine(0, 0, 0), 48);
    }

    @Says("but not more than the latest most N")
    static void theLatestMost() {
        late50();
        String by = "by none over 0 pays 1 each 1;";
        text(by + "most 51;");
        due(x.fine(0, 0, 0), 50);
        text(by + "most 50;");
        due(x.fine(0, 0, 0), 50);
        text(by + "most 49;");
        due(x.fine(0, 0, 0), 49);
        text("most 3;" + by + "most 49;free 0;");
        due(x.fine(0, 0, 0), 49);
        text("most 3;" + by);
        due(x.fine(0, 0, 0), 3);
        text(by + "most 3;most 0;");
        due(x.fine(0, 0, 0), 0);
        text("most 7;");
        due(x.fine(0, 0, 0), 0);
    }

    @Says("The latest free N (0 without): that many minutes (as many as there are) are taken off first")
    static void finesAreForWhatIsNotFree() {
        late50();
        x.delay(0, 0, 0, 20);
        text("free 30;by none or van over 0 pays 1 each 1;");
        due(x.fine(0, 0, 0), 20);
        text("by none or van over 0 pays 1 each 1;free 49;");
        due(x.fine(0, 0, 0), 1);
        text("by none or van over 0 pays 1 each 1;free 50;");
        due(x.fine(0, 0, 0), 0);
    }
}
