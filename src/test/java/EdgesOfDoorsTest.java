/** Edges of cells, doors and hearings: promises 27 to 32. */
public final class EdgesOfDoorsTest extends Edges {
    private EdgesOfDoorsTest() {}

    public static void main(String[] args) throws Exception {
        run(EdgesOfDoorsTest.class);
    }

    /** JAIL 0 and a COURT with some CELLS of a CAP, and n men. */
    private static void cells(int room, int cap, int n) {
        x.place(0, 20, 1, hours(0, 1439));
        x.place(1, room, cap, hours(0, 1439));
        moreMen(n);
    }

    private static void parts(int persons, int... parts) {
        int at = 0;
        for (int p = 0; p < 12; p++) {
            if ((persons >> p & 1) == 1) {
                due(x.held(1, persons, p), parts[at]);
                at++;
            }
        }
    }

    /** JAIL 0 and COURT 1, open as told. */
    private static void court(int from, int till) {
        x.place(0, 20, 1, hours(0, 1439));
        x.place(1, 1, 1, hours(from, till));
    }

    /** A man of COURT 1 who enters it at a minute; his LENGTH is 10. */
    private static void comer(int due, int came) {
        int p = x.person(0, 0, 1, heardFor(10, due));
        x.enter(p, 1, came, 2);
    }

    // ---- CELLS

    @Says("some PERSONS (8 at most) in as few parts as can be")
    static void eightInCells() {
        cells(6, 4, 9);
        due(x.held(1, 255, -1), 2);
        due(x.held(1, 510, -1), 2);
        due(x.held(1, 511, -1), -2);
        due(x.held(1, 511, 0), -2);
        moreMen(3);
        due(x.held(1, 4095, -1), -2);
        due(x.held(1, 4095 ^ 15, 4), 0);
    }

    @Says("CELLS of a COURT for PERSONS (bits): what = -1 how many")
    static void nobodyNeedsNoCells() {
        cells(0, 1, 0);
        due(x.held(1, 0, -1), 0);
        all(-1, what -> x.held(1, 0, what), -2, 0, 1);
        moreMen(1);
        due(x.held(1, 0, -1), 0);
        due(x.held(1, 0, 0), -3);
        due(x.held(1, 1, -1), -4);
    }

    @Says("of CAP of a COURT at most each")
    static void capJustEnough() {
        cells(6, 3, 7);
        due(x.held(1, 7, -1), 1);
        due(x.held(1, 15, -1), 2);
        due(x.held(1, 63, -1), 2);
        due(x.held(1, 127, -1), 3);
        parts(127, 0, 0, 0, 1, 1, 1, 2);
        x = new CourtVans();
        cells(6, 1, 6);
        due(x.held(1, 63, -1), 6);
        parts(63, 0, 1, 2, 3, 4, 5);
        x = new CourtVans();
        cells(6, 4, 5);
        due(x.held(1, 15, -1), 1);
        parts(31, 0, 0, 0, 0, 1);
    }

    @Says("no FOES in one")
    static void noFoesInOneCell() {
        cells(6, 4, 3);
        x.person(2, 0, 1, heardFor(1, 0));
        due(x.held(1, 7, -1), 1);
        due(x.held(1, 15, -1), 2);
        x.apart(0, 2, false);
        due(x.held(1, 15, -1), 1);
        x.bar(3, 1, true);
        due(x.held(1, 15, -1), 2);
        parts(15, 0, 0, 0, 1);
    }

    @Says("some PERSONS (8 at most) in as few parts as can be")
    static void asFewPartsAsCanBe() {
        cells(6, 4, 4);
        // 0 with 1 would leave 2 and 3, who are foes, and 2 is a foe of 0 as 3 is of 1
        x.bar(0, 2, true);
        x.bar(1, 3, true);
        x.bar(2, 3, true);
        due(x.held(1, 15, -1), 2);
        parts(15, 0, 1, 1, 0);
    }

    @Says("of several the one in which the first PERSON, by numbers, for whom two differ is in the lesser part")
    static void theFirstPersonInTheLesserPart() {
        cells(3, 2, 4);
        parts(15, 0, 0, 1, 1);
        x.bar(1, 0, true);
        parts(15, 0, 1, 0, 1);
        x.bar(2, 0, true);
        parts(15, 0, 1, 1, 0);
        x.bar(3, 0, true);
        due(x.held(1, 15, -1), 3);
        parts(15, 0, 1, 1, 2);
    }

    @Says("(parts are numbered as their first PERSON comes)")
    static void partsAreNumberedAsTheyCome() {
        cells(6, 1, 12);
        parts(1 << 3 | 1 << 7 | 1 << 11, 0, 1, 2);
    }

    @Says("None, if that is more than the COURT has.")
    static void asManyCellsAsTheCourtHas() {
        cells(2, 1, 3);
        due(x.held(1, 3, -1), 2);
        due(x.held(1, 7, -1), -4);
        due(x.held(1, 7, 2), -4);
        x = new CourtVans();
        cells(6, 1, 8);
        due(x.held(1, 63, -1), 6);
        due(x.held(1, 127, -1), -4);
        due(x.held(1, 255, -1), -4);
    }

    @Says("BAD: there is no such COURT, PERSON, another what; FULL: more than 8; STATE: more than it has (both ahead of NONE).")
    static void heldRefusesInOrder() {
        all(-1, c -> x.held(c, 0, -1), MIN, -1, 0, MAX);
        town();
        moreMen(12);
        all(-1, c -> x.held(c, 1, -1), MIN, -1, 0, 3, 4, MAX);
        all(-1, bits -> x.held(1, bits, -1), MIN, MIN | 1, -1, 4096, 4097, MAX);
        all(-1, what -> x.held(1, 1, what), MIN, -2, 12, MAX);
        // too many, and too many for it, and one who is none of them
        due(x.held(1, 511, 12), -1);
        due(x.held(1, 511, -2), -1);
        due(x.held(1, 511, 11), -2);
        due(x.held(1, 255, 12), -1);
        due(x.held(1, 255, 11), -4);
        due(x.held(1, 63, 11), -3);
        due(x.held(1, 63, 5), 2);
        due(x.held(2, 255, 11), -3);
        due(x.held(2, 255, 7), 1);
    }

    // ---- ENTRIES

    @Says("ENTRIES, 40 at most, numbered as they come")
    static void fortyEntries() {
        all(-1, p -> x.enter(p, 0, 0, 0), MIN, -1, 0, MAX);
        men(1);
        for (int i = 0; i < 40; i++) {
            due(x.enter(0, i % 4, 0, 0), i);
        }
        due(x.enter(0, 0, 0, 0), -2);
        due(x.many(5), 40);
        due(x.at(0, 0, 0), 3);
        // what is wrong is BAD ahead of FULL
        due(x.enter(1, 0, 0, 0), -1);
        due(x.enter(0, 4, 0, 0), -1);
        due(x.enter(0, 0, 1440, 0), -1);
        due(x.enter(0, 0, 0, 4), -1);
    }

    @Says("a PERSON enters a PLACE at a MINUTE, with PROOFS (0 to 3)")
    static void anEntrysNumbers() {
        men(12);
        all(-1, p -> x.enter(p, 0, 0, 0), MIN, -1, 12, MAX);
        all(-1, q -> x.enter(0, q, 0, 0), MIN, -1, 4, MAX);
        all(-1, m -> x.enter(0, 0, m, 0), MIN, -1, 1440, MAX);
        all(-1, n -> x.enter(0, 0, 0, n), MIN, -1, 4, MAX);
        due(x.many(5), 0);
        due(x.enter(0, 0, 0, 0), 0);
        due(x.enter(11, 3, 1439, 3), 1);
        due(x.at(11, 1439, 0), 3);
        due(x.at(11, 1438, 0), 0);
    }

    @Says("KNOWN from NOW on")
    static void knownFromNowOn() {
        men(1);
        x.minutes(500);
        // told now of an earlier minute and of a later one
        x.enter(0, 1, 300, 2);
        x.enter(0, 3, 900, 2);
        due(x.at(0, 1439, 499), 0);
        due(x.at(0, 300, 500), 1);
        due(x.at(0, 1439, 500), 3);
        due(x.at(0, 1439, 1439), 3);
        due(x.came(0, 499), -3);
        due(x.came(0, 500), 300);
        due(x.counted(1, 300, 499, false), 0);
        due(x.counted(1, 300, 500, false), 1);
        due(x.heard(0, 499), -3);
        due(x.heard(0, 500), 540);
    }

    @Says("a PERSON is AT the PLACE of his latest ENTRY at m or ahead")
    static void atMOrAhead() {
        men(2);
        x.enter(0, 1, 100, 0);
        x.enter(0, 2, 200, 0);
        due(x.at(0, 0, 0), 0);
        due(x.at(0, 99, 0), 0);
        due(x.at(0, 100, 0), 1);
        due(x.at(0, 199, 0), 1);
        due(x.at(0, 200, 0), 2);
        due(x.at(0, 1439, 0), 2);
        due(x.at(1, 1439, 0), 0);
        x.enter(1, 3, 0, 0);
        due(x.at(1, 0, 0), 3);
    }

    @Says("(by MINUTES, of like ones the latest told)")
    static void ofLikeOnesTheLatestTold() {
        men(1);
        x.enter(0, 1, 100, 0);
        x.enter(0, 2, 100, 0);
        due(x.at(0, 100, 0), 2);
        x.enter(0, 3, 99, 0);
        due(x.at(0, 100, 0), 2);
        due(x.at(0, 99, 0), 3);
        x.minutes(1);
        x.enter(0, 0, 100, 0);
        due(x.at(0, 100, 0), 2);
        due(x.at(0, 100, 1), 0);
    }

    @Says("or at HOME without")
    static void atHomeWithout() {
        town();
        x.person(0, 3, 1, heardFor(1, 0));
        due(x.at(0, 0, 0), 3);
        due(x.at(0, 1439, 1439), 3);
        due(x.counted(3, 0, 0, false), 1);
        due(x.counted(0, 0, 0, false), 0);
    }

    @Says("Where a PERSON is AT, at m, as KNOWN at k. BAD: there is no such PERSON, MINUTE (either).")
    static void atHasTwoMinutes() {
        all(-1, p -> x.at(p, 0, 0), MIN, -1, 0, MAX);
        men(12);
        all(-1, p -> x.at(p, 0, 0), MIN, -1, 12, MAX);
        all(-1, m -> x.at(0, m, 0), MIN, -1, 1440, MAX);
        all(-1, k -> x.at(0, 0, k), MIN, -1, 1440, MAX);
        due(x.at(11, 0, 1439), 0);
        due(x.at(11, 1439, 0), 0);
    }

    @Says("SURE is one whose latest such ENTRY has 2 PROOFS at least, or who has none.")
    static void sureByTwoProofs() {
        men(5);
        due(x.counted(0, 0, 0, true), 0);
        for (int p = 0; p < 4; p++) {
            x.enter(p, 1, 100, p);
        }
        due(x.counted(1, 100, 0, false), 4);
        due(x.counted(1, 100, 0, true), 2);
        due(x.counted(1, 99, 0, true), 0);
        due(x.counted(0, 99, 0, false), 5);
        due(x.counted(0, 100, 0, true), 0);
        // only the latest one counts, of like ones the latest told
        x.enter(3, 1, 101, 1);
        due(x.counted(1, 100, 0, true), 2);
        due(x.counted(1, 101, 0, true), 3);
        x.enter(0, 1, 100, 2);
        due(x.counted(1, 100, 0, true), 1);
    }

    @Says("How many PERSONS are AT a PLACE, at m, as KNOWN at k; of these those who are not SURE (unsure true).")
    static void countedFromNobodyToAll() {
        all(-1, q -> x.counted(q, 0, 0, false), MIN, -1, 0, MAX);
        town();
        due(x.counted(0, 0, 0, false), 0);
        moreMen(12);
        all(-1, q -> x.counted(q, 0, 0, true), MIN, -1, 4, MAX);
        all(-1, m -> x.counted(0, m, 0, true), MIN, -1, 1440, MAX);
        all(-1, k -> x.counted(0, 0, k, true), MIN, -1, 1440, MAX);
        due(x.counted(0, 0, 0, false), 12);
        due(x.counted(0, 1439, 1439, true), 0);
        due(x.counted(3, 1439, 1439, false), 0);
        for (int p = 0; p < 12; p++) {
            x.enter(p, 3, 5, 0);
        }
        due(x.counted(3, 5, 0, false), 12);
        due(x.counted(3, 5, 0, true), 12);
        due(x.counted(0, 5, 0, false), 0);
    }

    // ---- CAME

    @Says("CAME to a COURT: his first ENTRY (by MINUTES) to his COURT, as KNOWN at k.")
    static void cameFirstByMinutes() {
        men(2);
        due(x.came(0, 0), -3);
        // another COURT isn't his, nor is another one's ENTRY
        x.enter(0, 2, 1, 2);
        x.enter(1, 1, 2, 2);
        due(x.came(0, 0), -3);
        x.enter(0, 1, 1439, 0);
        due(x.came(0, 0), 1439);
        x.enter(0, 1, 701, 0);
        x.enter(0, 1, 702, 0);
        due(x.came(0, 0), 701);
        x.minutes(1);
        x.enter(0, 1, 0, 0);
        due(x.came(0, 0), 701);
        due(x.came(0, 1), 0);
    }

    @Says("CAME to a COURT: his first ENTRY (by MINUTES) to his COURT, as KNOWN at k.")
    static void cameAtTheFirstMinute() {
        men(1);
        x.enter(0, 1, 0, 0);
        x.enter(0, 1, 5, 0);
        x.enter(0, 1, 1439, 0);
        due(x.came(0, 0), 0);
    }

    @Says("When a PERSON CAME to his COURT, as KNOWN at k. BAD: there is no such PERSON, MINUTE; NONE.")
    static void cameHasAMinute() {
        all(-1, p -> x.came(p, 0), MIN, -1, 0, MAX);
        men(12);
        all(-1, p -> x.came(p, 0), MIN, -1, 12, MAX);
        all(-1, k -> x.came(0, k), MIN, -1, 1440, MAX);
        due(x.came(11, 0), -3);
        due(x.came(11, 1439), -3);
    }

    // ---- HEARINGS

    @Says("from 540, or OPEN, if that is later, on")
    static void hearingsFrom540() {
        court(0, 1439);
        comer(600, 0);
        due(x.heard(0, 0), 540);
        x = new CourtVans();
        court(540, 1439);
        comer(600, 0);
        due(x.heard(0, 0), 540);
        x = new CourtVans();
        court(541, 1439);
        comer(600, 0);
        due(x.heard(0, 0), 541);
    }

    @Says("and came at that time or ahead")
    static void whoCameAtThatTimeOrAhead() {
        court(0, 1439);
        comer(600, 540);
        due(x.heard(0, 0), 540);
        x = new CourtVans();
        court(0, 1439);
        comer(600, 541);
        due(x.heard(0, 0), 541);
        x = new CourtVans();
        court(0, 1439);
        comer(600, 530);
        comer(500, 550);
        comer(499, 551);
        // at 550 he who comes then is there, he of 551 is not
        due(x.heard(1, 0), 550);
        due(x.heard(2, 0), 560);
    }

    @Says("the one who is DUE first, of several the least")
    static void dueFirstThenTheLeast() {
        court(0, 1439);
        comer(600, 500);
        comer(600, 500);
        comer(599, 500);
        comer(601, 500);
        due(x.heard(2, 0), 540);
        due(x.heard(0, 0), 550);
        due(x.heard(1, 0), 560);
        due(x.heard(3, 0), 570);
    }

    @Says("it ends LENGTH later")
    static void theNextOneWhenOneEnds() {
        town();
        x.person(0, 0, 1, heardFor(1, 0));
        x.person(0, 0, 1, heardFor(120, 1));
        x.person(0, 0, 1, heardFor(1, 2));
        for (int p = 0; p < 3; p++) {
            x.enter(p, 1, 0, 2);
        }
        due(x.heard(0, 0), 540);
        due(x.heard(1, 0), 541);
        due(x.heard(2, 0), 661);
    }

    @Says("if nobody is there, the time becomes the least of those when others CAME")
    static void ifNobodyIsThere() {
        court(0, 1439);
        comer(600, 900);
        comer(600, 800);
        comer(600, 810);
        due(x.heard(1, 0), 800);
        due(x.heard(2, 0), 810);
        due(x.heard(0, 0), 900);
    }

    @Says("of PERSONS whose COURT it is, who CAME and are not yet heard")
    static void othersAreNotHeardThere() {
        town();
        x.person(0, 0, 2, heardFor(100, 0));
        x.person(0, 0, 1, heardFor(100, 0));
        x.enter(0, 1, 500, 2);
        x.enter(0, 2, 500, 2);
        x.enter(1, 1, 500, 2);
        due(x.heard(0, 0), 540);
        due(x.heard(1, 0), 540);
        // a second ENTRY makes no second HEARING
        x.person(0, 0, 1, heardFor(100, 1));
        x.enter(2, 1, 500, 2);
        x.enter(1, 1, 600, 2);
        due(x.heard(2, 0), 640);
    }

    @Says("One whose hearing would begin behind the time it is OPEN isn't heard.")
    static void heardInTheLastMinuteAtMost() {
        court(0, 550);
        comer(600, 0);
        comer(601, 0);
        comer(602, 0);
        due(x.heard(0, 0), 540);
        due(x.heard(1, 0), 550);
        due(x.heard(2, 0), -3);
        x = new CourtVans();
        court(0, 549);
        comer(600, 0);
        comer(601, 0);
        due(x.heard(0, 0), 540);
        due(x.heard(1, 0), -3);
        x = new CourtVans();
        court(0, 539);
        comer(600, 0);
        due(x.heard(0, 0), -3);
        x = new CourtVans();
        court(0, 540);
        comer(600, 540);
        due(x.heard(0, 0), 540);
    }

    @Says("One whose hearing would begin behind the time it is OPEN isn't heard.")
    static void whoComesBehindTheTimeItIsOpen() {
        court(0, 800);
        comer(600, 800);
        comer(600, 801);
        due(x.heard(0, 0), 800);
        due(x.heard(1, 0), -3);
        x = new CourtVans();
        court(0, 800);
        comer(600, 801);
        due(x.heard(0, 0), -3);
        due(x.came(0, 0), 801);
    }

    @Says("BAD likewise; NONE: he isn't heard (also, who didn't come).")
    static void heardHasAMinute() {
        all(-1, p -> x.heard(p, 0), MIN, -1, 0, MAX);
        men(12);
        all(-1, p -> x.heard(p, 0), MIN, -1, 12, MAX);
        all(-1, k -> x.heard(0, k), MIN, -1, 1440, MAX);
        due(x.heard(11, 0), -3);
        due(x.heard(11, 1439), -3);
    }

    @Says("of PERSONS whose COURT it is, who CAME and are not yet heard")
    static void twelveAreHeard() {
        men(12);
        for (int p = 0; p < 12; p++) {
            x.enter(p, 1, 600 + 20 * (11 - p), 2);
        }
        // each waits for nobody, and nobody for him
        for (int p = 0; p < 12; p++) {
            due(x.heard(p, 0), 600 + 20 * (11 - p));
        }
    }
}
