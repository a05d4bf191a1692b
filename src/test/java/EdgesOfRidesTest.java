/** Edges of vans, delays and rides: promises 13 to 16. */
public final class EdgesOfRidesTest extends Edges {
    private EdgesOfRidesTest() {}

    public static void main(String[] args) throws Exception {
        run(EdgesOfRidesTest.class);
    }

    /** JAIL 0 open as told, COURT 1 open as told, 60 minutes between; a man for COURT 1, DUE at 1439. */
    private static void oneCourt(int jailHours, int courtHours) {
        x.place(0, 20, 1, jailHours);
        x.place(1, 1, 1, courtHours);
        x.person(0, 0, 1, heardFor(1, 1439));
    }

    /** JAIL 0 and n COURTS, all day; a man for each COURT, DUE as told. */
    private static void courts(int n, int due) {
        x.place(0, 20, 1, hours(0, 1439));
        for (int c = 1; c <= n; c++) {
            x.place(1, 1, 1, hours(0, 1439));
            x.person(0, 0, c, heardFor(1, due));
        }
    }

    private static void order(int van, int persons, int... courts) {
        for (int i = 0; i < courts.length; i++) {
            due(x.route(van, persons, i), courts[i]);
        }
        due(x.route(van, persons, courts.length), -3);
    }

    // ---- vans and delays

    @Says("VANS, 3 at most, numbered as they come: at a PLACE (no COURT)")
    static void threeVans() {
        all(-1, q -> x.van(q, 1, starts(60, 0)), MIN, -1, 0, MAX);
        town();
        all(-1, q -> x.van(q, 1, starts(60, 0)), MIN, -1, 1, 2, 4, MAX);
        due(x.van(0, 1, starts(60, 0)), 0);
        due(x.van(3, 1, starts(60, 0)), 1);
        due(x.van(0, 1, starts(60, 0)), 2);
        due(x.van(0, 1, starts(60, 0)), -2);
        due(x.many(3), 3);
        // what is wrong is BAD ahead of FULL
        due(x.van(1, 1, starts(60, 0)), -1);
        due(x.van(0, 7, starts(60, 0)), -1);
        due(x.van(0, 1, starts(901, 0)), -1);
    }

    @Says("SEATS (1 to 6)")
    static void seatsAre1To6() {
        town();
        all(-1, s -> x.van(0, s, starts(60, 0)), MIN, -1, 0, 7, MAX);
        due(x.van(0, 1, starts(60, 0)), 0);
        due(x.van(0, 6, starts(60, 0)), 1);
    }

    @Says("START (a MINUTE), MOST (60 to 900)")
    static void mostIs60To900() {
        town();
        all(-1, h -> x.van(0, 1, h), MIN, -starts(60, 0), -1, 0, starts(59, 1439), starts(901, 0), MAX);
        due(x.van(0, 1, starts(60, 0)), 0);
        due(x.van(0, 1, starts(60, 1439)), 1);
        due(x.van(0, 1, starts(900, 1439)), 2);
    }

    @Says("DELAYS, 8 at most, numbered as they come")
    static void eightDelays() {
        town();
        all(-1, v -> x.delay(v, 0, 0, 1), MIN, -1, 0, MAX);
        x.van(0, 1, starts(60, 0));
        x.van(0, 1, starts(60, 0));
        x.van(0, 1, starts(60, 0));
        all(-1, v -> x.delay(v, 0, 0, 1), MIN, -1, 3, MAX);
        for (int i = 0; i < 8; i++) {
            due(x.delay(i % 3, 0, 0, 1), i);
        }
        due(x.delay(0, 0, 0, 1), -2);
        due(x.delay(2, 0, 0, 1), -2);
        due(x.many(4), 8);
        // what is wrong is BAD ahead of FULL
        due(x.delay(3, 0, 0, 1), -1);
        due(x.delay(0, 1440, 0, 1), -1);
        due(x.delay(0, 0, 4, 1), -1);
        due(x.delay(0, 0, 0, 241), -1);
    }

    @Says("of a VAN, from a MINUTE on, a CAUSE (0 van, 1 jail, 2 road, 3 court), n minutes (1 to 240)")
    static void aDelaysNumbers() {
        town();
        x.van(0, 1, starts(60, 0));
        all(-1, m -> x.delay(0, m, 0, 1), MIN, -1, 1440, MAX);
        all(-1, c -> x.delay(0, 0, c, 1), MIN, -1, 4, MAX);
        all(-1, n -> x.delay(0, 0, 0, n), MIN, -1, 0, 241, MAX);
        due(x.many(4), 0);
        due(x.delay(0, 0, 0, 1), 0);
        due(x.delay(0, 1439, 3, 240), 1);
    }

    // ---- where a RIDE begins

    @Says("it is at its PLACE at START, or at OPEN, if that is later (none, if that is behind the time it is OPEN)")
    static void theVanWaitsTillItsPlaceIsOpen() {
        oneCourt(hours(430, 500), hours(0, 1439));
        x.van(0, 1, starts(300, 429));
        x.van(0, 1, starts(300, 430));
        x.van(0, 1, starts(300, 431));
        due(x.route(0, 1, -2), 490);
        due(x.route(1, 1, -2), 490);
        due(x.route(2, 1, -2), 491);
    }

    @Says("it is at its PLACE at START, or at OPEN, if that is later (none, if that is behind the time it is OPEN)")
    static void theVanStartsInTheLastMinuteAtMost() {
        oneCourt(hours(430, 500), hours(0, 1439));
        x.van(0, 1, starts(300, 499));
        x.van(0, 1, starts(300, 500));
        x.van(0, 1, starts(300, 501));
        due(x.route(0, 1, -2), 559);
        due(x.route(1, 1, -2), 560);
        due(x.route(2, 1, -2), -4);
        due(x.arrival(2, 1, 0), -4);
    }

    @Says("it leaves so much later")
    static void itMayLeaveBehindTheTimeItsPlaceIsOpen() {
        oneCourt(hours(430, 500), hours(0, 1439));
        x.van(0, 1, starts(300, 500));
        x.delay(0, 0, 0, 9);
        due(x.route(0, 1, -2), 569);
    }

    // ---- DELAYS in a RIDE

    @Says("each of its DELAYS that is from then on or ahead")
    static void delaysFromThenOnOrAhead() {
        courts(1, 1439);
        x.van(0, 1, starts(300, 420));
        x.delay(0, 421, 0, 100);
        due(x.route(0, 1, -2), 480);
        x.delay(0, 420, 0, 10);
        due(x.route(0, 1, -2), 490);
        x.delay(0, 0, 0, 1);
        due(x.route(0, 1, -2), 491);
    }

    @Says("each of its DELAYS that is from then on or ahead")
    static void anotherVansDelaysAreNotLost() {
        courts(1, 1439);
        x.van(0, 1, starts(300, 420));
        x.van(0, 1, starts(300, 420));
        x.delay(1, 0, 0, 10);
        due(x.route(0, 1, -2), 480);
        due(x.route(1, 1, -2), 490);
    }

    @Says("and was not lost in this RIDE yet, is lost there")
    static void aDelayIsLostOnce() {
        courts(3, 1439);
        x.van(0, 3, starts(300, 420));
        x.delay(0, 400, 0, 10);
        due(x.route(0, 1, -2), 490);
        due(x.route(0, 3, -2), 550);
        due(x.route(0, 7, -2), 610);
    }

    @Says("and was not lost in this RIDE yet, is lost there")
    static void aDelayIsLostInEachRideAnew() {
        courts(1, 1439);
        x.van(0, 1, starts(300, 420));
        x.delay(0, 400, 0, 10);
        due(x.route(0, 1, -2), 490);
        due(x.route(0, 1, -2), 490);
    }

    @Says("When it leaves a PLACE at some time, each of its DELAYS that is from then on or ahead")
    static void aDelayIsLostWhereItIsFromThenOn() {
        courts(2, 1439);
        x.road(0, 2, 300);
        x.van(0, 2, starts(900, 420));
        // COURT 1 is left at 480
        x.delay(0, 481, 0, 7);
        due(x.route(0, 3, -2), 540);
        x.delay(0, 480, 0, 5);
        due(x.route(0, 3, -2), 545);
        due(x.arrival(0, 3, 0), 480);
        due(x.arrival(0, 3, 1), 545);
    }

    @Says("When it leaves a PLACE at some time, each of its DELAYS that is from then on or ahead")
    static void aDelayDoesNotDrawInAnotherOne() {
        courts(2, 1439);
        x.road(0, 2, 300);
        x.van(0, 2, starts(900, 420));
        x.delay(0, 420, 0, 10);
        x.delay(0, 421, 0, 7);
        // at JAIL 0 the second one is not from 420 on; at COURT 1 it is
        due(x.arrival(0, 3, 0), 490);
        due(x.arrival(0, 3, 1), 557);
    }

    @Says("Then it DRIVES (from the time at which it leaves in fact)")
    static void theHourIsThatInWhichItLeavesInFact() {
        courts(1, 1439);
        x.traffic(8, 100);
        x.van(0, 1, starts(300, 470));
        due(x.route(0, 1, -2), 530);
        x.delay(0, 0, 0, 9);
        due(x.route(0, 1, -2), 539);
        x.delay(0, 0, 0, 1);
        due(x.route(0, 1, -2), 600);
    }

    @Says("or of hour 23, if m is beyond")
    static void aDriveBeyondTheDayIsNoRide() {
        courts(1, 1439);
        x.road(0, 1, 1);
        x.van(0, 1, starts(300, 1438));
        due(x.route(0, 1, -2), 1439);
        x.delay(0, 0, 0, 1);
        due(x.route(0, 1, -2), -4);
        for (int i = 0; i < 7; i++) {
            x.delay(0, 0, 0, 240);
        }
        due(x.route(0, 1, -2), -4);
        due(x.plan(0), -3);
    }

    // ---- at the COURTS

    @Says("It is at a COURT then, or at OPEN, if that is later")
    static void theVanWaitsTillTheCourtIsOpen() {
        oneCourt(hours(0, 1439), hours(480, 1439));
        x.van(0, 1, starts(300, 419));
        x.van(0, 1, starts(300, 420));
        x.van(0, 1, starts(300, 421));
        due(x.route(0, 1, -2), 480);
        due(x.route(1, 1, -2), 480);
        due(x.route(2, 1, -2), 481);
    }

    @Says("(no RIDE, if that is behind the time it is OPEN)")
    static void theCourtsLastMinuteIsOpen() {
        oneCourt(hours(0, 1439), hours(0, 480));
        x.van(0, 1, starts(300, 420));
        x.van(0, 1, starts(300, 421));
        due(x.route(0, 1, -2), 480);
        due(x.route(1, 1, -2), -4);
        due(x.arrival(1, 1, 0), -4);
    }

    @Says("ARRIVAL of those whose COURT it is; it leaves at once, if there is another one")
    static void itLeavesACourtAtOpenAtOnce() {
        courts(2, 1439);
        x.place(1, 1, 1, hours(600, 1439));
        x.person(0, 0, 3, heardFor(1, 1439));
        x.road(0, 1, 300);
        x.road(0, 2, 300);
        x.van(0, 3, starts(900, 420));
        // COURT 3 by 480, left at 600
        x.delay(0, 601, 0, 50);
        due(x.arrival(0, 5, 2), 600);
        due(x.arrival(0, 5, 0), 660);
        x.delay(0, 600, 0, 4);
        due(x.arrival(0, 5, 0), 664);
    }

    @Says("From START to the last ARRIVAL are MOST minutes at most")
    static void mostMinutesAtMost() {
        courts(1, 1439);
        x.van(0, 1, starts(60, 420));
        due(x.route(0, 1, -2), 480);
        x.road(0, 1, 61);
        due(x.route(0, 1, -2), -4);
        x.road(0, 1, 59);
        x.delay(0, 0, 0, 1);
        due(x.route(0, 1, -2), 480);
        x.delay(0, 0, 0, 1);
        due(x.route(0, 1, -2), -4);
    }

    @Says("From START to the last ARRIVAL are MOST minutes at most")
    static void mostIsFromStartNotFromOpen() {
        oneCourt(hours(430, 500), hours(495, 1439));
        x.van(0, 1, starts(74, 420));
        x.van(0, 1, starts(75, 420));
        // it waits for the COURT, too
        due(x.route(0, 1, -2), -4);
        due(x.route(1, 1, -2), 495);
    }

    @Says("From START to the last ARRIVAL are MOST minutes at most")
    static void mostIsTillTheLastOfSome() {
        courts(2, 1439);
        x.van(0, 1, starts(120, 420));
        x.van(0, 1, starts(119, 420));
        due(x.route(0, 3, -2), 540);
        due(x.route(1, 3, -2), -4);
        due(x.route(1, 1, -2), 480);
    }

    @Says("there are 4 COURTS at most (else no RIDE)")
    static void fourCourtsAtMost() {
        courts(5, 1439);
        moreMen(1);
        x.van(0, 6, starts(900, 0));
        due(x.route(0, 15, -2), 240);
        order(0, 15, 1, 2, 3, 4);
        due(x.route(0, 15 + 32, -2), 240);
        due(x.route(0, 31, -2), -4);
        due(x.route(0, 31, 9), -4);
        due(x.arrival(0, 31, 0), -4);
        due(x.route(0, 30, -2), 240);
    }

    @Says("It is at a COURT then, or at OPEN, if that is later")
    static void theFirstPlaceAndTheLastOne() {
        x.place(1, 1, 1, hours(0, 1439));
        for (int q = 1; q < 7; q++) {
            x.place(2 * (q % 2), 20, 1, hours(0, 1439));
        }
        x.place(1, 1, 1, hours(0, 1439));
        x.person(0, 6, 7, heardFor(1, 1439));
        x.person(0, 6, 0, heardFor(1, 1439));
        x.van(6, 2, starts(300, 420));
        order(0, 3, 0, 7);
        due(x.arrival(0, 3, 1), 480);
        due(x.arrival(0, 3, 0), 540);
        due(x.plan(6), 0);
        due(x.plan(7), -1);
    }

    // ---- LATE, THE ROUTE

    @Says("LATE is how much ARRIVAL is behind DUE (0 at least)")
    static void lateIs0AtLeast() {
        town();
        x.person(0, 0, 1, heardFor(1, 479));
        x.person(0, 0, 1, heardFor(1, 480));
        x.person(0, 0, 1, heardFor(1, 481));
        x.person(0, 0, 1, heardFor(1, 0));
        x.person(0, 0, 1, heardFor(1, 1439));
        x.van(0, 1, starts(60, 420));
        due(x.route(0, 1, -1), 1);
        due(x.route(0, 2, -1), 0);
        due(x.route(0, 4, -1), 0);
        due(x.route(0, 8, -1), 480);
        due(x.route(0, 16, -1), 0);
        // one who is early takes nothing off
        due(x.route(0, 31, -1), 481);
    }

    @Says("the order with the least sum of LATE")
    static void theLeastSumOfLate() {
        town();
        x.person(0, 0, 1, heardFor(1, 500));
        x.person(0, 0, 2, heardFor(1, 500));
        x.van(0, 2, starts(900, 420));
        // 1, 2: 540 for 2, 40 late; 2, 1 the same
        order(0, 3, 1, 2);
        // by 2, 1 it is a minute more, whatever the last ARRIVAL
        x.person(0, 0, 1, heardFor(1, 539));
        order(0, 7, 1, 2);
        due(x.route(0, 7, -1), 40);
        // now 2, 1: 40 and 1, but 1, 2: 40 and 2
        x.person(0, 0, 2, heardFor(1, 538));
        order(0, 15, 2, 1);
        due(x.route(0, 15, -1), 41);
    }

    @Says("the order with the least sum of LATE")
    static void theLeastSumThoughItArrivesLater() {
        town();
        x.person(0, 0, 1, heardFor(1, 480));
        x.person(0, 0, 2, heardFor(1, 1439));
        x.road(0, 2, 59);
        x.van(0, 2, starts(900, 420));
        // 2, 1: 539 is the last ARRIVAL, 59 late; 1, 2: 540
        order(0, 3, 1, 2);
        due(x.route(0, 3, -1), 0);
        due(x.route(0, 3, -2), 540);
    }

    @Says("of several that with the least last ARRIVAL")
    static void theLeastLastArrival() {
        courts(2, 1439);
        x.van(0, 2, starts(900, 420));
        x.road(0, 2, 59);
        order(0, 3, 2, 1);
        due(x.route(0, 3, -2), 539);
        x.road(0, 2, 61);
        order(0, 3, 1, 2);
        due(x.route(0, 3, -2), 540);
    }

    @Says("of several the first by COURTS' numbers.")
    static void theFirstByCourtsNumbers() {
        courts(4, 1439);
        x.van(0, 4, starts(900, 420));
        order(0, 3, 1, 2);
        order(0, 10, 2, 4);
        order(0, 15, 1, 2, 3, 4);
        // behind 1, 2 now costs a minute more: of the others the first is 1, 3, 2, 4
        x.road(1, 2, 61);
        order(0, 15, 1, 3, 2, 4);
        x.road(0, 1, 61);
        x.road(1, 4, 61);
        // 2, 3, 1, then 4 costs 61, as does 2, 3, 4, 1; 2, 4, 3, 1 doesn't
        order(0, 15, 2, 4, 3, 1);
    }

    @Says("(Without PERSONS: none.)")
    static void withoutPersonsThereIsNone() {
        courts(1, 1439);
        x.van(0, 1, starts(300, 420));
        all(-1, what -> x.route(0, 0, what), -3, -2, -1, 0, 1);
        due(x.arrival(0, 0, 0), -1);
        due(x.route(0, 1, -2), 480);
    }

    // ---- what route() and arrival() are told

    @Says("what = -1 the sum of LATE, -2 the last ARRIVAL, else COURT i (NONE: no such)")
    static void whatIsMinus2AtLeast() {
        courts(4, 450);
        x.van(0, 4, starts(900, 420));
        all(-1, what -> x.route(0, 15, what), MIN, -4, -3);
        due(x.route(0, 1, -2), 480);
        due(x.route(0, 1, -1), 30);
        due(x.route(0, 1, 0), 1);
        all(-3, what -> x.route(0, 1, what), 1, 2, 4, MAX);
        due(x.route(0, 15, 3), 4);
        all(-3, what -> x.route(0, 15, what), 4, 5, 8, MAX);
    }

    @Says("BAD: there is no such VAN, PERSON (also none), one whose HOME isn't its PLACE, another what")
    static void personsOfAVan() {
        men(11);
        x.person(0, 3, 1, heardFor(10, 600));
        all(-1, v -> x.route(v, 1, -1), MIN, -1, 0, MAX);
        x.van(0, 1, starts(900, 420));
        x.van(3, 1, starts(900, 420));
        all(-1, v -> x.route(v, 1, -1), MIN, -1, 2, MAX);
        all(-1, p -> x.route(0, p, -1), MIN, -1, 0, 1 << 12, 1 << 12 | 1, 1 << 30, MAX, MIN | 1);
        all(-1, p -> x.route(0, p, -1), 1 << 11, 1 << 11 | 1, 4095);
        all(-1, p -> x.route(1, p, -1), 1, 1 << 10, 4095);
        due(x.route(0, 2047, -1), 0);
        due(x.route(1, 1 << 11, -1), 0);
    }

    @Says("STATE: there is none (ahead of NONE)")
    static void aRoutesRefusalsInOrder() {
        courts(1, 1439);
        x.person(0, 0, 1, heardFor(1, 1439));
        x.van(0, 1, starts(60, 1430));
        all(-4, what -> x.route(0, 1, what), -2, -1, 0, 1, 9, MAX);
        due(x.route(0, 1, -3), -1);
        due(x.route(0, 4, 9), -1);
        due(x.route(1, 1, 9), -1);
        due(x.arrival(0, 1, 0), -4);
        due(x.arrival(0, 1, 1), -1);
        due(x.arrival(0, 3, 1), -4);
    }

    @Says("BAD likewise, or the PERSON isn't one of them; STATE.")
    static void anArrivalIsOfOneOfThem() {
        men(12);
        all(-1, v -> x.arrival(v, 1, 0), -1, 0, 3);
        x.van(0, 1, starts(900, 420));
        due(x.arrival(0, 2049, 0), 480);
        due(x.arrival(0, 2049, 11), 480);
        all(-1, p -> x.arrival(0, 2049, p), MIN, -1, 1, 10, 12, 32, 43, MAX);
        all(-1, v -> x.arrival(v, 2049, 0), MIN, -1, 1, MAX);
        all(-1, bits -> x.arrival(0, bits, 0), MIN, MIN | 1, -1, 0, 2, 4097, MAX);
    }

    @Says("ARRIVAL of those whose COURT it is")
    static void eachArrivesAtHisCourt() {
        courts(3, 1439);
        moreMen(1);
        x.van(0, 4, starts(900, 420));
        due(x.arrival(0, 15, 0), 480);
        due(x.arrival(0, 15, 1), 540);
        due(x.arrival(0, 15, 2), 600);
        due(x.arrival(0, 15, 3), 480);
    }
}
