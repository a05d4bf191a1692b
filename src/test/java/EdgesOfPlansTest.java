/** Edges of plans, rows and THE READER: promises 17 to 26. */
public final class EdgesOfPlansTest extends Edges {
    private EdgesOfPlansTest() {}

    public static void main(String[] args) throws Exception {
        run(EdgesOfPlansTest.class);
    }

    private static void row(int i, int person, int van, int arrival) {
        due(x.row(i, 0), person);
        due(x.row(i, 1), van);
        due(x.row(i, 2), arrival);
    }

    // ---- RIDERS

    @Says("RIDERS of a PLACE, as bits. BAD: there is no such PLACE, it is a COURT.")
    static void ridersOfAPlace() {
        all(-1, q -> x.riders(q), MIN, -1, 0, MAX);
        men(0);
        all(-1, q -> x.riders(q), MIN, -1, 1, 2, 4, MAX);
        due(x.riders(0), 0);
        moreMen(11);
        x.person(0, 3, 1, heardFor(1, 0));
        due(x.riders(0), 2047);
        due(x.riders(3), 2048);
    }

    @Says("PERSONS whose HOME it is, and who are not WIRED")
    static void whoIsWiredDoesNotRide() {
        men(12);
        x.wire(0, true);
        x.wire(11, true);
        due(x.riders(0), 2046);
        x.wire(0, false);
        due(x.riders(0), 2047);
    }

    // ---- PLAN

    @Says("The PLAN of a PLACE: the sum of LATE. BAD likewise; FULL; NONE: there is none (0 without RIDERS).")
    static void aPlanWithoutRidersIs0() {
        all(-1, q -> x.plan(q), MIN, -1, 0, MAX);
        town();
        all(-1, q -> x.plan(q), MIN, -1, 1, 2, 4, MAX);
        due(x.plan(0), 0);
        due(x.plan(3), 0);
        moreMen(1);
        due(x.plan(0), -3);
        due(x.plan(3), 0);
        x.wire(0, true);
        due(x.plan(0), 0);
    }

    @Says("(More than 8 RIDERS: FULL.)")
    static void eightRidersAtMost() {
        men(8);
        due(x.plan(0), -3);
        x.van(0, 6, starts(300, 420));
        due(x.plan(0), -3);
        x.van(0, 2, starts(300, 420));
        due(x.plan(0), 0);
        moreMen(1);
        due(x.plan(0), -2);
        due(x.vanOf(0), -2);
        due(x.less(0), -2);
        due(x.prove(0), -2);
        x.wire(3, true);
        due(x.plan(0), 0);
        due(x.vanOf(8), 1);
        x.wire(3, false);
        moreMen(3);
        due(x.plan(0), -2);
    }

    @Says("FULL, NONE likewise (in this order)")
    static void fullIsAheadOfNone() {
        men(9);
        due(x.plan(0), -2);
        due(x.prove(0), -2);
        due(x.vanOf(0), -2);
        x.wire(0, true);
        due(x.plan(0), -3);
        due(x.prove(0), -3);
        due(x.vanOf(1), -3);
    }

    @Says("each RIDER in one VAN of the PLACE")
    static void onlyVansOfThePlace() {
        men(2);
        x.van(3, 2, starts(300, 420));
        due(x.plan(0), -3);
        due(x.less(0), 3);
        due(x.bound(0), -3);
        x.van(0, 2, starts(300, 430));
        due(x.plan(0), 0);
        due(x.vanOf(0), 1);
    }

    @Says("SEATS enough")
    static void seatsJustEnough() {
        men(6);
        x.van(0, 6, starts(300, 420));
        due(x.plan(0), 0);
        moreMen(1);
        due(x.plan(0), -3);
        x.van(0, 1, starts(300, 700));
        // the last one takes the late VAN
        due(x.plan(0), 160);
        due(x.vanOf(6), 1);
        due(x.vanOf(5), 0);
    }

    @Says("no FOES in one VAN")
    static void noFoesInOneVan() {
        men(2);
        x.van(0, 2, starts(300, 420));
        due(x.plan(0), 0);
        x.bar(1, 0, true);
        due(x.plan(0), -3);
        x.van(0, 2, starts(300, 420));
        due(x.plan(0), 0);
        due(x.vanOf(0), 0);
        due(x.vanOf(1), 1);
        x.bar(1, 0, false);
        due(x.vanOf(1), 0);
        x.apart(0, 0, true);
        due(x.vanOf(1), 1);
    }

    @Says("each VAN with PERSONS has a ROUTE")
    static void aVanWithoutPersonsNeedsNoRoute() {
        men(1);
        x.van(0, 1, starts(60, 1439));
        due(x.plan(0), -3);
        x.van(0, 1, starts(60, 420));
        due(x.plan(0), 0);
        due(x.vanOf(0), 1);
    }

    @Says("each VAN with PERSONS has a ROUTE")
    static void fourCourtsInOneVan() {
        x.place(0, 20, 1, hours(0, 1439));
        for (int c = 1; c <= 5; c++) {
            x.place(1, 1, 1, hours(0, 1439));
            x.person(0, 0, c, heardFor(1, 1439));
        }
        x.van(0, 6, starts(900, 0));
        due(x.plan(0), -3);
        due(x.less(0), 1);
        x.wire(2, true);
        due(x.plan(0), 0);
    }

    @Says("that with the least sum of LATE of all")
    static void theLeastSumOfAll() {
        town();
        x.person(0, 0, 1, heardFor(1, 480));
        x.person(0, 0, 1, heardFor(1, 480));
        x.van(0, 1, starts(300, 421));
        x.van(0, 1, starts(300, 423));
        x.van(0, 2, starts(300, 422));
        // 1 in VAN 0 and 2 in VAN 2, or the other way round; the lesser PERSON in the lesser VAN
        due(x.plan(0), 3);
        due(x.vanOf(0), 0);
        due(x.vanOf(1), 2);
        // a third one in VAN 0, the others together in VAN 2: a minute less than each in his own
        x.person(0, 0, 2, heardFor(1, 421));
        due(x.plan(0), 2 + 2 + 60);
        due(x.vanOf(2), 0);
        x.wire(2, true);
        due(x.plan(0), 3);
    }

    @Says("of several that in which the least PERSON who isn't in the same VAN is in the lesser one")
    static void theLeastPersonInTheLesserVan() {
        men(3);
        x.van(0, 2, starts(300, 420));
        x.van(0, 2, starts(300, 420));
        due(x.vanOf(0), 0);
        due(x.vanOf(1), 0);
        due(x.vanOf(2), 1);
        x.bar(0, 1, true);
        due(x.vanOf(1), 1);
        due(x.vanOf(2), 0);
        x.bar(0, 2, true);
        due(x.vanOf(0), 0);
        due(x.vanOf(1), 1);
        due(x.vanOf(2), 1);
    }

    @Says("The VAN of a PERSON in the PLAN of his HOME. BAD: there is none such; STATE: WIRED; FULL, NONE likewise")
    static void vanOfRefusesInOrder() {
        all(-1, p -> x.vanOf(p), MIN, -1, 0, MAX);
        men(10);
        all(-1, p -> x.vanOf(p), MIN, -1, 10, 12, 32, MAX);
        x.wire(0, true);
        due(x.vanOf(0), -4);
        due(x.vanOf(1), -2);
        x.wire(1, true);
        due(x.vanOf(1), -4);
        due(x.vanOf(2), -3);
        for (int p = 3; p < 10; p++) {
            x.wire(p, true);
        }
        due(x.vanOf(2), -3);
        x.van(0, 1, starts(300, 420));
        due(x.vanOf(2), 0);
        due(x.vanOf(0), -4);
    }

    // ---- LESS, BOUND

    @Says("LESS is the set of RIDERS, as small as can be")
    static void lessIsAsSmallAsCanBe() {
        all(-1, q -> x.less(q), MIN, -1, 0, MAX);
        men(3);
        all(-1, q -> x.less(q), MIN, -1, 1, 4, MAX);
        due(x.less(3), 0);
        due(x.less(0), 7);
        x.van(0, 3, starts(300, 420));
        due(x.less(0), 0);
        // one foe of both others: he alone stays
        x.bar(2, 0, true);
        x.bar(2, 1, true);
        due(x.less(0), 4);
        x.van(0, 1, starts(300, 420));
        due(x.less(0), 0);
    }

    @Says("of several the least bits, without which there is a PLAN")
    static void lessIsTheLeastBits() {
        men(8);
        x.van(0, 3, starts(300, 420));
        due(x.less(0), 31);
        x.van(0, 4, starts(300, 420));
        due(x.less(0), 1);
        x.bar(0, 1, true);
        due(x.less(0), 1);
        x.bar(6, 7, true);
        due(x.less(0), 1);
        x.bar(5, 7, true);
        due(x.less(0), 1);
        x.van(0, 1, starts(300, 420));
        due(x.less(0), 0);
        x.wire(0, true);
        x.wire(7, true);
        due(x.less(0), 0);
    }

    @Says("LESS, as bits. BAD, FULL likewise.")
    static void lessTakesEight() {
        men(3);
        for (int p = 0; p < 3; p++) {
            x.wire(p, true);
        }
        moreMen(8);
        // bits of PERSONS, not of RIDERS
        due(x.less(0), 255 << 3);
        x.van(0, 6, starts(300, 420));
        due(x.less(0), 3 << 3);
        moreMen(1);
        due(x.less(0), -2);
        x.wire(11, true);
        due(x.less(0), 3 << 3);
    }

    @Says("if each RIDER had each VAN of the PLACE alone and took the one with which it is the least")
    static void boundTakesTheLeast() {
        men(2);
        x.van(0, 1, starts(300, 542));
        x.van(0, 1, starts(300, 541));
        x.van(0, 1, starts(300, 543));
        due(x.bound(0), 2);
        x.bar(0, 1, true);
        due(x.bound(0), 2);
        due(x.plan(0), 3);
        x.wire(1, true);
        due(x.bound(0), 1);
    }

    @Says("took the one with which it is the least")
    static void boundOfWhoIsNotLate() {
        men(1);
        x.van(0, 1, starts(300, 420));
        x.van(0, 1, starts(300, 600));
        due(x.bound(0), 0);
        x = new CourtVans();
        men(1);
        x.van(0, 1, starts(300, 600));
        x.van(0, 1, starts(300, 420));
        x.van(0, 1, starts(300, 1439));
        due(x.bound(0), 0);
    }

    @Says("BOUND. BAD likewise; NONE: there is none.")
    static void boundOfNobodyIs0() {
        all(-1, q -> x.bound(q), MIN, -1, 0, MAX);
        men(1);
        all(-1, q -> x.bound(q), MIN, -1, 1, 2, 4, MAX);
        due(x.bound(3), 0);
        due(x.bound(0), -3);
        x.wire(0, true);
        due(x.bound(0), 0);
    }

    @Says("(one that has none: no BOUND)")
    static void oneWithoutARouteMakesNoBound() {
        men(1);
        x.place(1, 1, 1, hours(0, 479));
        x.person(0, 0, 4, heardFor(1, 0));
        x.van(0, 1, starts(300, 420));
        due(x.bound(0), -3);
        x.van(0, 1, starts(300, 419));
        due(x.bound(0), 479);
        x.wire(1, true);
        due(x.bound(0), 0);
    }

    @Says("BOUND. BAD likewise; NONE: there is none.")
    static void boundOfTwelve() {
        men(12);
        due(x.bound(0), -3);
        x.van(0, 1, starts(300, 541));
        due(x.bound(0), 12);
        due(x.plan(0), -2);
    }

    // ---- ROWS

    @Says("ROWS become those of the PLAN: how many. BAD, FULL, NONE likewise.")
    static void asManyRowsAsRiders() {
        all(-1, q -> x.prove(q), MIN, -1, 0, MAX);
        men(8);
        all(-1, q -> x.prove(q), MIN, -1, 1, 2, 4, MAX);
        due(x.prove(0), -3);
        due(x.many(7), 0);
        x.van(0, 6, starts(300, 420));
        x.van(0, 6, starts(300, 430));
        due(x.prove(0), 8);
        due(x.many(7), 8);
        row(7, 7, 1, 490);
        row(5, 5, 0, 480);
        // a refused one leaves them
        due(x.prove(1), -1);
        moreMen(1);
        due(x.prove(0), -2);
        x.apart(0, 0, true);
        x.wire(8, true);
        due(x.prove(0), -3);
        due(x.many(7), 8);
        row(7, 7, 1, 490);
        due(x.prove(3), 0);
        due(x.many(7), 0);
        due(x.row(0, 0), -9);
    }

    @Says("for each RIDER, by numbers: (PERSON, VAN, ARRIVAL)")
    static void rowsAreOfRidersAlone() {
        men(4);
        x.wire(0, true);
        x.wire(2, true);
        x.van(0, 1, starts(300, 430));
        x.van(0, 1, starts(300, 420));
        due(x.prove(0), 2);
        row(0, 1, 0, 490);
        row(1, 3, 1, 480);
    }

    @Says("-9: there is none such, another what.")
    static void rowsWithinTheirNumber() {
        all(-9, i -> x.row(i, 0), MIN, -1, 0, 1, MAX);
        men(2);
        x.van(0, 2, starts(300, 420));
        x.prove(0);
        all(-9, i -> x.row(i, 0), MIN, -1, 2, 8, MAX);
        all(-9, what -> x.row(0, what), MIN, -1, 3, MAX);
        row(1, 1, 0, 480);
    }

    @Says("It becomes v: what it was. -9 likewise.")
    static void anyNumberMayStandInARow() {
        all(-9, i -> x.alterRow(i, 0, 5), MIN, -1, 0, 1, MAX);
        men(2);
        x.van(0, 2, starts(300, 420));
        x.prove(0);
        all(-9, i -> x.alterRow(i, 0, 5), MIN, -1, 2, 8, MAX);
        all(-9, what -> x.alterRow(0, what, 5), MIN, -1, 3, MAX);
        row(0, 0, 0, 480);
        row(1, 1, 0, 480);
        due(x.alterRow(1, 0, MAX), 1);
        due(x.alterRow(1, 1, MIN), 0);
        due(x.alterRow(1, 2, -9), 480);
        row(1, MAX, MIN, -9);
        due(x.alterRow(1, 0, 0), MAX);
        due(x.alterRow(1, 1, 0), MIN);
        due(x.alterRow(1, 2, 0), -9);
        row(1, 0, 0, 0);
        row(0, 0, 0, 480);
    }

    @Says("The last ROW goes: how many there are. NONE: there is none.")
    static void rowsGoTillNoneIsLeft() {
        due(x.drop(), -3);
        men(3);
        x.van(0, 3, starts(300, 420));
        x.prove(0);
        due(x.drop(), 2);
        due(x.row(2, 0), -9);
        due(x.row(1, 0), 1);
        due(x.many(7), 2);
        due(x.drop(), 1);
        due(x.drop(), 0);
        due(x.drop(), -3);
        due(x.many(7), 0);
        due(x.prove(0), 3);
        row(2, 2, 0, 480);
    }

    // ---- THE READER

    @Says("-100 less the first RIDER, by numbers, whose ROW isn't there in its place")
    static void theFirstRowThatIsMissing() {
        men(12);
        due(x.judge(0), -100);
        for (int p = 0; p < 11; p++) {
            x.wire(p, true);
            due(x.judge(0), -101 - p);
        }
        x.wire(11, true);
        due(x.judge(0), 0);
    }

    @Says("BAD: there is no such PLACE, it is a COURT.")
    static void judgeAsksForAPlace() {
        all(-1, q -> x.judge(q), MIN, -1, 0, MAX);
        town();
        all(-1, q -> x.judge(q), MIN, -1, 1, 2, 4, MAX);
        due(x.judge(0), 0);
    }

    @Says("-200: there are more ROWS than RIDERS")
    static void oneRowTooMany() {
        men(2);
        x.van(0, 2, starts(300, 550));
        x.prove(0);
        due(x.judge(0), 20);
        due(x.judge(3), -200);
        x.wire(1, true);
        due(x.judge(0), -200);
        x.drop();
        due(x.judge(0), 10);
        due(x.judge(3), -200);
        x.wire(0, true);
        due(x.judge(0), -200);
        x.drop();
        due(x.judge(0), 0);
        due(x.judge(3), 0);
    }

    @Says("THE READER takes any ROWS, without looking for others")
    static void rightRowsNeedNotBeThePlan() {
        men(1);
        x.van(0, 1, starts(300, 420));
        x.van(0, 1, starts(300, 600));
        x.prove(0);
        due(x.judge(0), 0);
        x.alterRow(0, 1, 1);
        due(x.judge(0), -100);
        x.alterRow(0, 2, 660);
        due(x.judge(0), 60);
    }

    @Says("the first RIDER, by numbers, whose ROW isn't there in its place")
    static void aRowTellsItsOwnRider() {
        men(2);
        x.van(0, 2, starts(300, 420));
        x.prove(0);
        // both are told, but each in the other one's place
        x.alterRow(0, 0, 1);
        x.alterRow(1, 0, 0);
        due(x.judge(0), -100);
        x.alterRow(0, 0, 0);
        due(x.judge(0), -101);
        for (int p : new int[] {MIN, -9, -1, 2, 3, MAX}) {
            x.alterRow(1, 0, p);
            due(x.judge(0), -101);
        }
        x.alterRow(1, 0, 1);
        due(x.judge(0), 0);
    }

    @Says("its VAN isn't of the PLACE or has too few SEATS for all in it")
    static void aRowTellsAVanOfThePlace() {
        men(1);
        x.van(0, 1, starts(300, 420));
        x.van(3, 1, starts(300, 420));
        x.prove(0);
        int[] others = {MIN, -9, -3, -1, 1, 2, 3, MAX};
        for (int v : others) {
            x.alterRow(0, 1, v);
            due(x.judge(0), -100);
        }
        x.alterRow(0, 1, 0);
        due(x.judge(0), 0);
    }

    @Says("has too few SEATS for all in it")
    static void seatsForAllInIt() {
        men(3);
        x.van(0, 3, starts(300, 420));
        x.van(0, 2, starts(300, 420));
        x.prove(0);
        due(x.judge(0), 0);
        x.alterRow(1, 1, 1);
        x.alterRow(2, 1, 1);
        due(x.judge(0), 0);
        x.alterRow(0, 1, 1);
        due(x.judge(0), -100);
        x.alterRow(1, 1, 0);
        due(x.judge(0), 0);
    }

    @Says("(in a VAN are those RIDERS whose ROW is in its place and tells it)")
    static void whoIsInAVanByRows() {
        men(3);
        x.van(0, 2, starts(300, 420));
        x.van(0, 1, starts(300, 420));
        x.prove(0);
        due(x.judge(0), 0);
        x.alterRow(2, 1, 0);
        due(x.judge(0), -100);
        // the third ROW tells another one: nobody sits there by it
        x.alterRow(2, 0, 1);
        due(x.judge(0), -102);
        x.alterRow(2, 0, 2);
        x.drop();
        due(x.judge(0), -102);
    }

    @Says("(in a VAN are those RIDERS whose ROW is in its place and tells it)")
    static void whoIsNoRiderSitsNowhere() {
        town();
        x.person(0, 3, 2, heardFor(1, 0));
        x.person(0, 0, 1, heardFor(1, 600));
        x.person(0, 0, 2, heardFor(1, 600));
        x.person(0, 0, 1, heardFor(1, 600));
        x.van(0, 2, starts(300, 420));
        x.wire(2, true);
        x.bar(0, 1, true);
        x.bar(1, 2, true);
        due(x.prove(0), 2);
        row(0, 1, 0, 480);
        row(1, 3, 0, 480);
        due(x.judge(0), 0);
    }

    @Says("a FOE is in it")
    static void foesByRows() {
        men(4);
        x.van(0, 4, starts(300, 420));
        x.van(0, 4, starts(300, 420));
        x.prove(0);
        due(x.judge(0), 0);
        x.bar(2, 3, true);
        due(x.judge(0), -102);
        x.alterRow(3, 1, 1);
        due(x.judge(0), 0);
        x.bar(0, 3, true);
        due(x.judge(0), 0);
        x.bar(0, 2, true);
        due(x.judge(0), -100);
    }

    @Says("it has no ROUTE, ARRIVAL is another")
    static void theArrivalIsTheRoutes() {
        men(1);
        x.van(0, 1, starts(60, 420));
        x.prove(0);
        int[] others = {MIN, -9, -4, -3, 0, 479, 481, MAX};
        for (int a : others) {
            x.alterRow(0, 2, a);
            due(x.judge(0), -100);
        }
        x.alterRow(0, 2, 480);
        due(x.judge(0), 0);
        x.road(0, 1, 61);
        due(x.judge(0), -100);
        for (int a : new int[] {481, -4, -3, -1, 0}) {
            x.alterRow(0, 2, a);
            due(x.judge(0), -100);
        }
        x.road(0, 1, 59);
        x.alterRow(0, 2, 479);
        due(x.judge(0), 0);
    }

    @Says("The PLAN of a PLACE: the sum of LATE.")
    static void judgeTellsTheSumOfThePlan() {
        town();
        x.person(0, 0, 1, heardFor(1, 400));
        x.person(0, 0, 2, heardFor(1, 1439));
        x.person(0, 0, 2, heardFor(1, 539));
        x.van(0, 3, starts(900, 420));
        due(x.plan(0), 81);
        due(x.prove(0), 3);
        due(x.judge(0), 81);
        x.van(0, 3, starts(900, 479));
        due(x.plan(0), 80);
        due(x.judge(0), 81);
    }

    @Says("else -100 less the first RIDER, by numbers, whose ROW isn't there in its place, or isn't so")
    static void aWrongRiderComesAheadOfTooManyRows() {
        men(2);
        x.van(0, 2, starts(300, 420));
        x.prove(0);
        x.wire(1, true);
        due(x.judge(0), -200);
        x.alterRow(0, 2, 0);
        due(x.judge(0), -100);
    }
}
