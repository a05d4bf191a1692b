/** Edges of the host, of many() and of what is kept: promises 43 to 53. */
public final class EdgesOfHostTest extends Edges {
    private static final int PERSON = 0, VAN = 1, THING = 2, ROW = 3, NOTHING = 4;
    private static final int COUNTS = 0, HOLDS = 1, OWES = 2, TELLS = 3;

    private EdgesOfHostTest() {}

    public static void main(String[] args) throws Exception {
        run(EdgesOfHostTest.class);
    }

    private static void trace(int... bodies) {
        due(x.many(10), bodies.length);
        for (int i = 0; i < bodies.length; i++) {
            due(x.trace(i), bodies[i]);
        }
        due(x.trace(bodies.length), -3);
    }

    /** PERSONS 0 man, 1 woman, 2 child, 3 risk, each DUE as told; VAN 0 with 6 SEATS. */
    private static void four(int due) {
        town();
        for (int g = 0; g < 4; g++) {
            x.person(g, 0, 1, heardFor(1, due));
        }
        x.van(0, 6, starts(60, 0));
    }

    // ---- SHEETS

    @Says("SHEETS 0 to 3 are rows of bytes (sort 0), shorts (1), ints (2) or longs (3)")
    static void sheetsAre0To3() {
        all(-1, s -> x.sheet(s, 0, 1), MIN, -1, 4, MAX);
        all(-1, s -> x.sheet(s, -1, 1), MIN, -1, 4, MAX);
        all(-1, sort -> x.sheet(0, sort, 1), MIN, -2, 4, MAX);
        due(x.item(0, 0, 0), -11);
        for (int i = 0; i < 4; i++) {
            due(x.sheet(i, i, 1), 1);
            due(x.item(i, i, 0), 0);
        }
    }

    @Says("40 at most, or missing (at first)")
    static void fortyItems() {
        for (int i = 0; i < 4; i++) {
            due(x.item(i, i, 0), -11);
            all(-1, n -> x.sheet(1, 2, n), 41, 1000000, MAX);
            due(x.sheet(i, i, 40), 1);
            due(x.put(i, 39, 7), 1);
            due(x.item(i, i, 39), 7);
            all(-12, at -> x.item(0, 0, at), MIN, -1, 40, 41, MAX);
        }
        // each SHEET has its own items
        due(x.put(1, 0, 8), 1);
        due(x.item(0, 0, 39), 7);
        due(x.item(2, 2, 0), 0);
    }

    @Says("such a call changes nothing")
    static void aRefusedSheetStays() {
        x.sheet(0, 1, 2);
        x.put(0, 1, 9);
        due(x.sheet(0, 4, 1), -1);
        due(x.sheet(0, -2, 1), -1);
        due(x.sheet(0, 2, 41), -1);
        due(x.sheet(0, 2, -1), -14);
        due(x.item(0, 1, 1), 9);
    }

    @Says("or missing (sort -1; n is not asked then): 1.")
    static void missingWithoutN() {
        int[] asked = {MIN, -1, 0, 40, 41, MAX};
        for (int n : asked) {
            x.sheet(3, 0, 1);
            due(x.sheet(3, -1, n), 1);
            due(x.item(3, 0, 0), -11);
            due(x.sheet(3, -1, n), 1);
        }
    }

    @Says("A SHEET becomes a row of n of a sort, all 0")
    static void aRowAnewIsAll0() {
        x.sheet(0, 2, 40);
        for (int i = 0; i < 40; i++) {
            x.put(0, i, -1 - i);
        }
        due(x.sheet(0, 2, 40), 1);
        for (int i = 0; i < 40; i++) {
            due(x.item(0, 2, i), 0);
        }
    }

    @Says("BAD: no such SHEET, sort, n above 40; -14.")
    static void aSizeBelow0() {
        all(-14, n -> x.sheet(0, 0, n), MIN, MIN + 1, -1);
        all(-14, sort -> x.sheet(0, sort, -1), 0, 1, 2, 3);
        due(x.sheet(4, 0, -1), -1);
        due(x.sheet(-1, 0, -1), -1);
        due(x.sheet(0, 4, -1), -1);
        due(x.sheet(0, -2, -1), -1);
        due(x.sheet(0, 0, 0), 1);
        all(-12, i -> x.item(0, 0, i), -1, 0);
        all(-12, i -> x.put(0, i, 1), -1, 0);
    }

    @Says("Item i becomes v, narrowed to its sort: 1. BAD: no such SHEET; -11; -12.")
    static void putsRefusals() {
        all(-1, s -> x.put(s, 0, 1), MIN, -1, 4, MAX);
        all(-11, i -> x.put(0, i, 1), MIN, -1, 0, 40, MAX);
        for (int sort = 0; sort < 4; sort++) {
            x.sheet(0, sort, 2);
            all(-12, i -> x.put(0, i, 1), MIN, -1, 2, 40, MAX);
            due(x.put(0, 0, 1), 1);
            due(x.put(0, 1, 1), 1);
            due(x.item(0, sort, 0), 1);
        }
    }

    @Says("narrowed to its sort")
    static void narrowedNumbers() {
        x.sheet(0, 0, 1);
        x.sheet(1, 1, 1);
        x.sheet(2, 2, 1);
        x.sheet(3, 3, 1);
        int[] puts = {127, 128, 255, 256, -128, -129, 32767, 32768, 65535, 65536, -32768, -32769, MIN, MAX, -1};
        int[] bytes = {127, -128, -1, 0, -128, 127, -1, 0, -1, 0, 0, -1, 0, -1, -1};
        int[] shorts = {127, 128, 255, 256, -128, -129, 32767, -32768, -1, 0, -32768, 32767, 0, -1, -1};
        for (int i = 0; i < puts.length; i++) {
            for (int s = 0; s < 4; s++) {
                due(x.put(s, 0, puts[i]), 1);
            }
            due(x.item(0, 0, 0), bytes[i]);
            due(x.item(1, 1, 0), shorts[i]);
            due(x.item(2, 2, 0), puts[i]);
            due(x.item(3, 3, 0), puts[i]);
        }
    }

    @Says("BAD: no such SHEET, sort; -13; -11; -12. (An item may be as low as these, too.)")
    static void itemsRefusalsInOrder() {
        all(-1, s -> x.item(s, 0, 0), MIN, -1, 4, MAX);
        all(-1, sort -> x.item(0, sort, 0), MIN, -1, 4, MAX);
        all(-11, sort -> x.item(0, sort, 99), 0, 1, 2, 3);
        for (int is = 0; is < 4; is++) {
            x.sheet(0, is, 3);
            for (int sort = 0; sort < 4; sort++) {
                due(x.item(0, sort, 2), sort == is ? 0 : -13);
                due(x.item(0, sort, 3), sort == is ? -12 : -13);
                due(x.item(0, sort, MIN), sort == is ? -12 : -13);
                due(x.item(0, sort, MAX), sort == is ? -12 : -13);
            }
            due(x.item(0, 4, 3), -1);
            due(x.item(4, is, 3), -1);
            for (int v = -15; v <= -11; v++) {
                x.put(0, 0, v);
                due(x.item(0, is, 0), v);
            }
        }
    }

    // ---- ENTRIES from a SHEET

    @Says("BAD: no such SHEET; -13; -11; -12.")
    static void comesRefusalsInOrder() {
        men(1);
        all(-1, s -> x.comes(s, 0), MIN, -1, 4, MAX);
        all(-11, i -> x.comes(0, i), MIN, -1, 0, 99);
        for (int sort = 0; sort < 4; sort++) {
            if (sort != 1) {
                x.sheet(0, sort, 4);
                all(-13, i -> x.comes(0, i), MIN, -1, 0, 1, 99);
            }
        }
        x.sheet(0, 1, 4);
        all(-12, i -> x.comes(0, i), MIN, -4, -1, 1, 2, 3, 4, 40, MAX - 3, MAX - 2, MAX - 1, MAX);
        due(x.many(5), 0);
        due(x.comes(0, 0), 0);
        due(x.many(5), 1);
        for (int n = 0; n < 4; n++) {
            x.sheet(0, 1, n);
            all(-12, i -> x.comes(0, i), -1, 0, 1);
        }
    }

    @Says("items i to i + 3 are what enter() is told, in its order: what that answers")
    static void comesAnswersAsEnterDoes() {
        men(1);
        x.sheet(0, 1, 40);
        // the last four items
        x.put(0, 37, 1);
        x.put(0, 38, 700);
        x.put(0, 39, 1);
        due(x.comes(0, 36), 0);
        due(x.came(0, 0), 700);
        due(x.counted(1, 700, 0, true), 1);
        due(x.comes(0, 37), -12);
        int[][] wrong = {{36, -1}, {36, 1}, {37, -1}, {37, 4}, {38, -1}, {38, 1440}, {39, -1}, {39, 4}};
        for (int[] w : wrong) {
            int was = x.item(0, 1, w[0]);
            x.put(0, w[0], w[1]);
            due(x.comes(0, 36), -1);
            x.put(0, w[0], was);
        }
        // 65536 + 700 is 700 as a short
        x.put(0, 38, 65536 + 1439);
        due(x.comes(0, 36), 1);
        due(x.at(0, 1438, 0), 1);
        for (int i = 2; i < 40; i++) {
            due(x.comes(0, 36), i);
        }
        due(x.comes(0, 36), -2);
        x.put(0, 36, 1);
        due(x.comes(0, 36), -1);
        due(x.comes(0, 37), -12);
        due(x.many(5), 40);
    }

    // ---- SHELVES

    @Says("SHELVES 0 to 3 hold a PERSON, a VAN, a THING, a SHEET's row, or nothing (at first)")
    static void shelvesAre0To3() {
        men(1);
        all(-1, s -> x.shelf(s, PERSON, 0), MIN, -1, 4, MAX);
        all(-1, s -> x.shelf(s, NOTHING, 0), MIN, -1, 4, MAX);
        all(-1, what -> x.shelf(0, what, 0), MIN, -1, 5, MAX);
        all(-11, s -> x.taken(s, 0), 0, 1, 2, 3);
        due(x.shelf(0, PERSON, 0), 1);
        due(x.shelf(3, PERSON, 0), 1);
        due(x.taken(0, 0), 0);
        due(x.taken(1, 0), -11);
        due(x.taken(2, 0), -11);
        due(x.taken(3, 0), 0);
    }

    @Says("BAD: no such SHELF, what, thing.")
    static void onlyWhatIsThereIsHeld() {
        all(-1, n -> x.shelf(0, PERSON, n), MIN, -1, 0, MAX);
        all(-1, n -> x.shelf(0, VAN, n), MIN, -1, 0, MAX);
        all(-1, n -> x.shelf(0, THING, n), MIN, -1, 0, MAX);
        all(-1, n -> x.shelf(0, ROW, n), MIN, -1, 4, MAX);
        men(12);
        x.shelf(0, PERSON, 11);
        for (int i = 0; i < 16; i++) {
            x.thing(0, 0);
            x.van(0, 1, starts(60, 0));
        }
        all(-1, n -> x.shelf(0, PERSON, n), MIN, -1, 12, MAX);
        all(-1, n -> x.shelf(0, VAN, n), MIN, -1, 3, MAX);
        all(-1, n -> x.shelf(0, THING, n), MIN, -1, 16, MAX);
        // what is refused leaves what is there
        due(x.taken(0, 1), 11);
        due(x.shelf(0, VAN, 2), 1);
        due(x.taken(0, 4), 2);
        due(x.shelf(0, THING, 15), 1);
        due(x.taken(0, 6), 15);
    }

    @Says("the row of SHEET n (3; nothing, if missing), nothing (4): 1.")
    static void aMissingRowIsNothing() {
        men(1);
        for (int n = 0; n < 4; n++) {
            x.shelf(0, PERSON, 0);
            due(x.shelf(0, ROW, n), 1);
            due(x.taken(0, 0), -11);
            due(x.taken(0, 10), -11);
            x.sheet(n, n, 0);
            due(x.shelf(0, ROW, n), 1);
            due(x.taken(0, 10 + n), 0);
        }
        all(1, n -> x.shelf(0, NOTHING, n), MIN, -1, 0, 1, MAX);
        due(x.taken(0, 13), -11);
    }

    @Says("hold a PERSON, a VAN, a THING, a SHEET's row, or nothing (at first)")
    static void aRowOnAShelfStaysWhatItIs() {
        x.sheet(0, 1, 5);
        x.shelf(0, ROW, 0);
        x.sheet(0, 2, 9);
        due(x.taken(0, 11), 5);
        due(x.taken(0, 12), -13);
        x.sheet(0, -1, 0);
        due(x.taken(0, 11), 5);
        due(x.shelf(0, ROW, 0), 1);
        due(x.taken(0, 11), -11);
    }

    @Says("one that is not there any more is nothing")
    static void whatIsGoneIsNothing() {
        men(1);
        x.keep();
        moreMen(1);
        x.van(0, 1, starts(60, 0));
        x.thing(0, 0);
        x.shelf(0, PERSON, 1);
        x.shelf(1, VAN, 0);
        x.shelf(2, THING, 0);
        x.shelf(3, PERSON, 0);
        all(1, s -> x.taken(s, 0) >= 0 ? 1 : 0, 0, 1, 2, 3);
        x.act(3, COUNTS, 1);
        due(x.again(), 1);
        due(x.taken(0, 1), -11);
        due(x.taken(0, 12), -11);
        due(x.taken(1, 4), -11);
        due(x.taken(2, 5), -11);
        due(x.taken(3, 1), 0);
        for (int s = 0; s < 3; s++) {
            due(x.act(3, COUNTS, 1), 3);
            trace(20, 10);
            due(x.act(s, COUNTS, 1), 0);
            trace();
        }
    }

    @Says("What a SHELF holds taken for a thing of kind as (0 to 6, or one under it): its number")
    static void takenForKinds() {
        four(0);
        x.thing(0, 0);
        x.thing(0, 0);
        int[][] things = {{PERSON, 0, 1}, {PERSON, 1, 2}, {PERSON, 2, 3}, {PERSON, 3, 1}, {VAN, 0, 4}, {THING, 0, 5}, {THING, 1, 6}};
        int[] under = {-1, 0, 1, 1, 0, 0, 5};
        for (int[] t : things) {
            x.shelf(0, t[0], t[1]);
            for (int as = 0; as <= 6; as++) {
                due(x.taken(0, as), as == 0 || as == t[2] || as == under[t[2]] ? t[1] : -13);
            }
            all(-13, as -> x.taken(0, as), 10, 11, 12, 13);
            all(-1, as -> x.taken(0, as), MIN, -1, 7, 8, 9, 14, MAX);
        }
    }

    @Says("for a row of sort as - 10 (as 10 to 13): how many items. BAD: no such SHELF, as; -13; -11.")
    static void takenForRows() {
        all(-1, s -> x.taken(s, 0), MIN, -1, 4, MAX);
        all(-1, as -> x.taken(0, as), MIN, -1, 7, 9, 14, MAX);
        for (int as = 0; as <= 13; as++) {
            due(x.taken(0, as), as > 6 && as < 10 ? -1 : -11);
        }
        for (int sort = 0; sort < 4; sort++) {
            for (int n = 0; n <= 40; n += 40) {
                x.sheet(0, sort, n);
                x.shelf(0, ROW, 0);
                for (int as = 0; as <= 13; as++) {
                    int row = as - 10 == sort ? n : -13;
                    due(x.taken(0, as), as > 6 && as < 10 ? -1 : row);
                }
            }
        }
    }

    // ---- ACTS: ints that wrap

    @Says("ACTS of things, with a number x (ints that wrap)")
    static void aPersonsActsWrap() {
        four(100);
        x.shelf(0, PERSON, 3);
        due(x.act(0, COUNTS, MAX), (MIN + 2) * 3);
        due(x.act(0, COUNTS, MAX - 3), MAX * 3);
        due(x.act(0, COUNTS, MIN), (MIN + 3) * 3);
        due(x.act(0, COUNTS, 715827879), MAX - 1);
        due(x.act(0, COUNTS, 715827880), MIN + 1);
        // 3 times it is MIN, less a wraps
        due(x.act(0, HOLDS, 715827880 - 715827882 * 2 - 1), (715827880 - 715827882 * 2 + 2) * 3 - 100);
        due(x.act(0, HOLDS, 715827880), MAX - 98);
        due(x.act(0, OWES, MIN), MIN / (3 - 100));
        due(x.act(0, OWES, MAX), MAX / (3 - 100));
        due(x.act(0, TELLS, MAX), ((MIN + 2) * 3 - 100) ^ 15);
    }

    @Says("woman: 30 holds: super.holds(x + 1).")
    static void aWomansActsWrap() {
        four(100);
        x.shelf(0, PERSON, 1);
        due(x.act(0, HOLDS, MAX), (MIN + 1) * 3 - 100);
        trace(30, 11, 20, 10);
        due(x.act(0, HOLDS, -2), -100);
        due(x.act(0, TELLS, MAX), ((MIN + 1) * 3 - 100) ^ 9);
        trace(13, 30, 11, 20, 10, 20, 10);
        due(x.act(0, COUNTS, -1), 0);
        trace(20, 10);
        due(x.act(0, OWES, 99), -1);
        trace(12);
        due(x.act(0, OWES, 98), 0);
    }

    @Says("child: 40 counts: super.counts(x) - 1. 41 tells: super.tells(x) + holds(1).")
    static void aChildsActsWrap() {
        four(100);
        x.shelf(0, PERSON, 2);
        // three times x + 2 is MIN: less 1 it is MAX
        int third = (int) (((1L << 31) + (1L << 32)) / 3) - 2;
        due(x.act(0, COUNTS, third), MAX);
        trace(40, 20, 10);
        due(x.act(0, HOLDS, third), MAX - 100);
        trace(11, 40, 20, 10);
        due(x.act(0, TELLS, third), ((MAX - 100) ^ 11) + (8 - 100));
        trace(41, 13, 11, 40, 20, 10, 40, 20, 10, 11, 40, 20, 10);
        due(x.act(0, OWES, 98), -1);
        trace(12);
    }

    @Says("van: 50 holds: super.holds(x) * 2. 51 owes: super.owes(x + a).")
    static void aVansActsWrap() {
        four(100);
        x.shelf(0, VAN, 0);
        due(x.act(0, COUNTS, MAX), MAX);
        trace(10);
        due(x.act(0, HOLDS, MIN), (MIN - 6) * 2);
        trace(50, 11, 10);
        due(x.act(0, HOLDS, MAX), (MAX - 6) * 2);
        due(x.act(0, OWES, MAX), (MIN + 5) / -6);
        trace(51, 12);
        due(x.act(0, OWES, -6), 0);
        due(x.act(0, OWES, -12), 1);
        due(x.act(0, OWES, -11), 0);
        due(x.act(0, TELLS, MIN), ((MIN - 6) * 2) ^ 2);
        trace(13, 50, 11, 10, 10);
    }

    @Says("property: 60 tells: super.tells(x) - n. paper: 70 counts: super.counts(x) ^ 5. 71 owes: 0 - super.owes(x).")
    static void aThingsActsWrap() {
        four(100);
        for (int i = 0; i < 16; i++) {
            x.thing(i == 12 ? 1 : 3, 0);
        }
        x.shelf(0, THING, 12);
        due(x.act(0, COUNTS, MAX), MIN + 11);
        trace(10);
        due(x.act(0, HOLDS, MIN - 12), MAX);
        due(x.act(0, TELLS, MIN - 11), (MIN ^ 14) - 12);
        trace(60, 13, 11, 10, 10);
        due(x.act(0, OWES, MIN), MIN / 11);
        trace(12);
        x.shelf(0, THING, 15);
        due(x.act(0, COUNTS, MAX), (MIN + 14) ^ 5);
        trace(70, 10);
        due(x.act(0, HOLDS, MAX - 15), (MAX ^ 5) - 3);
        trace(11, 70, 10);
        due(x.act(0, OWES, MIN), 0 - MIN / 12);
        trace(71, 12);
        due(x.act(0, TELLS, MAX - 15), (((MAX ^ 5) - 3) ^ (17 ^ 5)) - 15);
        trace(60, 13, 11, 70, 10, 70, 10);
    }

    @Says("12 owes: x by (n - a), the rest away")
    static void owesByOneAndByMinusOne() {
        town();
        x.person(0, 0, 1, heardFor(1, 1));
        x.person(0, 0, 1, heardFor(1, 0));
        // 0 - 1 and 1 - 0
        x.shelf(0, PERSON, 0);
        x.shelf(1, PERSON, 1);
        due(x.act(0, OWES, MIN), MIN);
        due(x.act(0, OWES, MAX), -MAX);
        due(x.act(1, OWES, MIN), MIN);
        due(x.act(1, OWES, MAX), MAX);
        // paper 1 of PERSON 0: the opposite of MIN is MIN
        x.thing(0, 0);
        x.thing(0, 0);
        x.shelf(2, THING, 1);
        due(x.act(2, OWES, MIN), MIN);
        due(x.act(2, OWES, MAX), -MAX);
        x = new CourtVans();
        men(3);
        x.shelf(0, PERSON, 0);
        due(x.act(0, OWES, 599), 0);
        due(x.act(0, OWES, 600), -1);
        due(x.act(0, OWES, -599), 0);
        due(x.act(0, OWES, -1199), 1);
    }

    @Says("(-15 if these are the same; that is all that act() answers then)")
    static void owesPartedBy0() {
        town();
        for (int g = 0; g < 4; g++) {
            x.person(g, 0, 1, heardFor(1, g));
        }
        for (int i = 0; i < 4; i++) {
            x.thing(i, 0);
        }
        for (int p = 0; p < 4; p++) {
            x.shelf(0, PERSON, p);
            all(-15, n -> x.act(0, OWES, n), MIN, -1, 0, 1, MAX);
            trace(12);
        }
        x.shelf(0, THING, 2);
        due(x.act(0, OWES, 7), -15);
        trace(12);
        x.shelf(0, THING, 3);
        all(-15, n -> x.act(0, OWES, n), MIN, 0, MAX);
        trace(71, 12);
        // a VAN parts by its number less its SEATS, whatever x becomes ahead of that
        for (int v = 0; v < 3; v++) {
            x.van(0, Math.max(1, v), starts(60, 0));
        }
        for (int v = 1; v < 3; v++) {
            x.shelf(0, VAN, v);
            all(-15, n -> x.act(0, OWES, n), MIN, -v, 0, MAX);
            trace(51, 12);
        }
        // one apart it is a number, also where that is -15
        x.person(0, 0, 1, heardFor(1, 3));
        x.shelf(0, PERSON, 4);
        due(x.act(0, OWES, -15), -15);
        due(x.act(0, OWES, 0), 0);
    }

    @Says("A THING with an even number is property, with an odd one a paper.")
    static void evenAndOddThings() {
        men(1);
        for (int i = 0; i < 16; i++) {
            x.thing(0, 0);
            x.shelf(0, THING, i);
            due(x.taken(0, 5), i);
            due(x.taken(0, 6), i % 2 == 1 ? i : -13);
        }
    }

    @Says("An ACT (0 to 3) of the thing on a SHELF, with x. 0, and no TRACE then: no such SHELF, act, nothing, a row.")
    static void noActs() {
        men(1);
        x.sheet(0, 2, 5);
        x.shelf(0, PERSON, 0);
        x.shelf(1, ROW, 0);
        int[][] wrong = {{-1, 0}, {4, 0}, {MIN, 0}, {MAX, 0}, {0, -1}, {0, 4}, {0, MIN}, {0, MAX}, {1, 0}, {1, 3}, {2, 0}, {3, 3}};
        for (int[] w : wrong) {
            due(x.act(0, COUNTS, 5), 15);
            trace(20, 10);
            due(x.act(w[0], w[1], 5), 0);
            trace();
        }
        due(x.act(0, TELLS, 5), (15 - 600) ^ 6);
        due(x.many(10), 6);
    }

    @Says("THE TRACE's i-th body. NONE.")
    static void tracesWithinTheirNumber() {
        all(-3, i -> x.trace(i), MIN, -1, 0, 1, MAX);
        four(100);
        x.shelf(0, PERSON, 2);
        x.act(0, TELLS, 1);
        due(x.trace(0), 41);
        due(x.trace(12), 10);
        all(-3, i -> x.trace(i), MIN, -1, 13, 29, 30, 31, MAX);
        // the latest act() alone counts
        x.act(0, OWES, 1);
        due(x.trace(0), 12);
        all(-3, i -> x.trace(i), 1, 12);
    }

    // ---- many

    @Says("How many: what = 0 NOW, 1 PLACES, 2 PERSONS, 3 VANS, 4 DELAYS, 5 ENTRIES, 6 THINGS, 7 ROWS, 8 LINES of THE CONTRACT, 9 bytes of THE TAPE, 10 bodies of THE TRACE (those kept, 30 at most), 11 WIRED ones. BAD: another what.")
    static void manyOf0To11() {
        all(-1, what -> x.many(what), MIN, -1, 12, MAX);
        due(x.many(0), 0);
        due(x.many(11), 0);
        men(12);
        x.minutes(1439);
        x.wire(11, true);
        due(x.many(0), 1439);
        due(x.many(2), 12);
        due(x.many(11), 1);
    }

    @Says("How many: what = 0 NOW, 1 PLACES, 2 PERSONS, 3 VANS, 4 DELAYS, 5 ENTRIES, 6 THINGS, 7 ROWS, 8 LINES of THE CONTRACT, 9 bytes of THE TAPE")
    static void manyWhenAllIsFull() {
        men(8);
        for (int i = 0; i < 50; i++) {
            x.place(2, 1, 1, 0);
            x.van(0, 6, starts(900, 420));
            x.delay(0, 1439, 0, 1);
            x.enter(0, 0, 0, 0);
            x.thing(0, 0);
        }
        x.prove(0);
        moreMen(5);
        text("most 1;most 2;most 3;most 4;most 5;most 6;most 7;most 8;");
        for (int i = 0; i < 25; i++) {
            x.feed(0L, 8);
        }
        x.feed(0L, 1);
        int[] most = {0, 8, 12, 3, 8, 40, 16, 8, 8, 200, 0, 0};
        for (int what = 0; what < 12; what++) {
            due(x.many(what), most[what]);
        }
    }

    // ---- kept

    @Says("It becomes what was kept latest (which stays): 1. NONE: nothing is kept.")
    static void nothingIsKeptAtFirst() {
        due(x.again(), -3);
        x.minutes(5);
        due(x.again(), -3);
        due(x.many(0), 5);
        due(x.keep(), 1);
        due(x.again(), 1);
        due(x.many(0), 5);
    }

    @Says("All but THE TAPE, ROWS, SHEETS, SHELVES, THE TRACE is kept: 1.")
    static void anEmptyObjectMayBeKept() {
        due(x.keep(), 1);
        men(12);
        x.apart(0, 0, true);
        x.traffic(0, 5);
        x.road(0, 1, 5);
        x.bar(0, 11, true);
        x.wire(11, true);
        due(x.again(), 1);
        for (int what = 0; what <= 11; what++) {
            due(x.many(what), 0);
        }
        due(x.apart(0, 0, false), 0);
        due(x.traffic(0, 0), 0);
        // what comes later with those numbers is new
        men(12);
        due(x.road(0, 1, 60), 60);
        due(x.foes(0, 11), 0);
        due(x.of(11, 5), 0);
        due(x.riders(0), 4095);
    }

    @Says("It becomes what was kept latest (which stays): 1.")
    static void theLatestKeptStays() {
        x.minutes(1);
        x.keep();
        x.minutes(1);
        x.keep();
        x.minutes(1);
        due(x.again(), 1);
        due(x.many(0), 2);
        x.minutes(7);
        x.traffic(0, 5);
        due(x.again(), 1);
        due(x.many(0), 2);
        due(x.traffic(0, 6), 0);
        due(x.again(), 1);
        due(x.traffic(0, 6), 0);
    }

    @Says("All but THE TAPE, ROWS, SHEETS, SHELVES, THE TRACE is kept: 1.")
    static void whatIsNotKeptGoesOn() {
        men(2);
        x.van(0, 2, starts(300, 420));
        x.feed(0L, 1);
        x.prove(0);
        x.sheet(0, 2, 3);
        x.put(0, 0, 5);
        x.shelf(0, PERSON, 0);
        x.act(0, COUNTS, 0);
        x.keep();
        x.feed(0L, 8);
        x.drop();
        x.alterRow(0, 2, 77);
        x.put(0, 0, 6);
        x.sheet(1, 0, 1);
        x.shelf(0, PERSON, 1);
        x.shelf(1, ROW, 1);
        x.act(0, HOLDS, 0);
        due(x.again(), 1);
        due(x.many(9), 9);
        due(x.many(7), 1);
        due(x.row(0, 2), 77);
        due(x.item(0, 2, 0), 6);
        due(x.item(1, 0, 0), 0);
        due(x.taken(0, 0), 1);
        due(x.taken(1, 10), 1);
        trace(11, 20, 10);
    }

    @Says("All but THE TAPE, ROWS, SHEETS, SHELVES, THE TRACE is kept: 1.")
    static void allElseIsKept() {
        men(2);
        x.van(0, 2, starts(300, 420));
        x.thing(0, 3);
        text("free 7;");
        x.delay(0, 400, 1, 5);
        x.enter(0, 1, 610, 2);
        x.keep();
        x.minutes(9);
        x.place(2, 1, 1, 0);
        x.road(0, 1, 300);
        x.traffic(7, 200);
        moreMen(1);
        x.apart(0, 0, true);
        x.bar(0, 1, true);
        x.wire(0, true);
        x.van(0, 1, starts(300, 420));
        x.delay(0, 0, 0, 100);
        x.enter(0, 1, 600, 2);
        text("most 1;most 2;");
        x.thing(0, 0);
        x.carry(0, -1);
        due(x.again(), 1);
        int[] want = {0, 4, 2, 1, 1, 1, 1, 0, 1, 0, 0, 0};
        for (int what = 0; what < 12; what++) {
            due(x.many(what), want[what]);
        }
        due(x.drive(0, 1, 420), 60);
        due(x.foes(0, 1), 0);
        due(x.riders(0), 3);
        due(x.route(0, 3, -2), 485);
        due(x.came(0, 1439), 610);
        due(x.line(0, 0), 1);
        due(x.line(0, 2), 7);
        due(x.part(0, 0, 1, 1439), 3);
        due(x.lacks(0, 0), 1);
        due(x.carry(0, 0), 3);
    }
}
