/** Edges of places, roads and persons: promises 1 to 12. */
public final class EdgesOfPlacesTest extends Edges {
    private EdgesOfPlacesTest() {}

    public static void main(String[] args) throws Exception {
        run(EdgesOfPlacesTest.class);
    }

    @Says("NOW 0; all is empty.")
    static void aNewObjectIsEmpty() {
        for (int what = 0; what <= 11; what++) {
            due(x.many(what), 0);
        }
        due(x.drive(0, 1, 0), -1);
        due(x.of(0, 0), -1);
        due(x.delay(0, 0, 0, 1), -1);
        due(x.riders(0), -1);
        due(x.row(0, 0), -9);
        due(x.drop(), -3);
        due(x.line(0, 0), -9);
        due(x.carry(0, -1), -1);
        due(x.trace(0), -3);
        due(x.again(), -3);
        for (int i = 0; i < 4; i++) {
            due(x.item(i, 0, 0), -11);
            due(x.taken(i, 0), -11);
            due(x.act(i, 0, 1), 0);
        }
        due(x.read(), 0);
    }

    @Says("NOW 0; all is empty.")
    static void objectsShareNothing() {
        men(1);
        x.minutes(7);
        x.apart(0, 0, true);
        x.traffic(0, 9);
        x.keep();
        x = new CourtVans();
        due(x.many(0), 0);
        due(x.many(1), 0);
        due(x.apart(0, 0, true), 0);
        due(x.traffic(0, 9), 0);
        due(x.again(), -3);
    }

    // ---- minutes

    @Says("n minutes (1 to 1439) go by: NOW.")
    static void minutesAre1To1439() {
        all(-1, n -> x.minutes(n), MIN, -1, 0, 1440, MAX);
        due(x.many(0), 0);
        due(x.minutes(1), 1);
        x = new CourtVans();
        due(x.minutes(1439), 1439);
    }

    @Says("STATE: it would be above 1439.")
    static void nowIs1439AtMost() {
        due(x.minutes(700), 700);
        due(x.minutes(740), -4);
        due(x.many(0), 700);
        due(x.minutes(739), 1439);
        due(x.minutes(1), -4);
        due(x.minutes(1439), -4);
        due(x.many(0), 1439);
        // what is no number of minutes is BAD ahead of that
        all(-1, n -> x.minutes(n), 0, 1440, MAX);
    }

    // ---- place

    @Says("PLACES, 8 at most, numbered as they come")
    static void eightPlaces() {
        for (int i = 0; i < 8; i++) {
            due(x.place(i % 3, 1, 1, 0), i);
        }
        all(-2, kind -> x.place(kind, 1, 1, 0), 0, 1, 2);
        due(x.many(1), 8);
    }

    @Says("of a KIND 0 JAIL, 1 COURT, 2 POLICE")
    static void kindsAre0To2() {
        all(-1, kind -> x.place(kind, 1, 1, 0), MIN, -1, 3, MAX);
        due(x.many(1), 0);
        due(x.place(0, 1, 1, 0), 0);
        due(x.place(1, 1, 1, 0), 1);
        due(x.place(2, 1, 1, 0), 2);
        due(x.riders(0), 0);
        due(x.riders(1), -1);
        due(x.riders(2), 0);
    }

    @Says("ROOM (0 to 20;")
    static void roomIs0To20() {
        all(-1, room -> x.place(0, room, 1, 0), MIN, -1, 21, MAX);
        all(-1, room -> x.place(2, room, 1, 0), MIN, -1, 21, MAX);
        due(x.place(0, 0, 1, 0), 0);
        due(x.place(0, 20, 1, 0), 1);
        due(x.place(2, 0, 1, 0), 2);
        due(x.place(2, 20, 1, 0), 3);
    }

    @Says("of a COURT how many CELLS it has, 0 to 6")
    static void cellsAre0To6() {
        all(-1, room -> x.place(1, room, 1, 0), MIN, -1, 7, 20, MAX);
        due(x.place(1, 0, 1, 0), 0);
        due(x.place(1, 6, 1, 0), 1);
    }

    @Says("CAP (1 to 4: persons in a CELL; of others 1)")
    static void capIs1To4() {
        all(-1, cap -> x.place(1, 1, cap, 0), MIN, -1, 0, 5, MAX);
        all(-1, cap -> x.place(0, 1, cap, 0), MIN, -1, 0, 2, 4, MAX);
        all(-1, cap -> x.place(2, 1, cap, 0), MIN, -1, 0, 2, 4, MAX);
        due(x.place(1, 1, 1, 0), 0);
        due(x.place(1, 1, 4, 0), 1);
        due(x.place(0, 1, 1, 0), 2);
        due(x.place(2, 1, 1, 0), 3);
    }

    @Says("OPEN from a MINUTE to a MINUTE (both with them; the last one isn't ahead of the first)")
    static void openHours() {
        all(-1, h -> x.place(0, 1, 1, h), MIN, -1440, -1, hours(1440, 0), hours(1440, 1439), MAX);
        all(-1, h -> x.place(0, 1, 1, h), hours(1, 0), hours(5, 4), hours(1439, 1438), hours(1439, 0));
        due(x.place(0, 1, 1, 0), 0);
        due(x.place(0, 1, 1, hours(5, 5)), 1);
        due(x.place(0, 1, 1, hours(1439, 1439)), 2);
        due(x.place(0, 1, 1, hours(0, 1439)), 3);
    }

    @Says("such a call changes nothing (but that THE TAPE is used up); of several the first named: BAD (-1)")
    static void aWrongPlaceIsBadAheadOfFull() {
        for (int i = 0; i < 8; i++) {
            x.place(1, 1, 1, 0);
        }
        due(x.place(3, 1, 1, 0), -1);
        due(x.place(1, 7, 1, 0), -1);
        due(x.place(1, 1, 5, 0), -1);
        due(x.place(1, 1, 1, -1), -1);
        due(x.place(1, 1, 1, hours(5, 4)), -1);
        due(x.place(1, 1, 1, 0), -2);
    }

    // ---- roads

    @Says("between two PLACES MINUTES 1 to 300 (60 at first), both ways alike")
    static void roadsAre1To300() {
        town();
        all(-1, n -> x.road(0, 1, n), MIN, -1, 0, 301, MAX);
        due(x.road(0, 1, 1), 60);
        due(x.road(1, 0, 300), 1);
        due(x.road(0, 1, 60), 300);
        due(x.road(2, 3, 300), 60);
        due(x.road(3, 2, 1), 300);
        // a refused one changes nothing
        due(x.road(3, 2, 301), -1);
        due(x.drive(2, 3, 0), 1);
    }

    @Says("between two PLACES MINUTES 1 to 300 (60 at first), both ways alike")
    static void roadsAre60AtFirst() {
        for (int i = 0; i < 8; i++) {
            x.place(i % 3, 1, 1, 0);
        }
        for (int a = 0; a < 8; a++) {
            for (int b = 0; b < a; b++) {
                due(x.road(a, b, 10 * a + b + 1), 60);
                due(x.drive(b, a, 0), 10 * a + b + 1);
            }
        }
    }

    @Says("BAD: there is no such PLACE (either), they are the same, or n isn't 1 to 300.")
    static void aRoadHasTwoPlaces() {
        all(-1, a -> x.road(a, 0, 5), MIN, -1, 0, 1, MAX);
        town();
        all(-1, a -> x.road(a, 0, 5), MIN, -1, 0, 4, 8, MAX);
        all(-1, b -> x.road(3, b, 5), MIN, -1, 3, 4, 8, MAX);
        due(x.road(3, 0, 5), 60);
    }

    @Says("TRAFFIC of an hour 0 to 23: 0 to 200 (0 at first).")
    static void trafficIs0To200() {
        all(-1, n -> x.traffic(0, n), MIN, -1, 201, MAX);
        for (int hour = 0; hour < 24; hour++) {
            due(x.traffic(hour, 200), 0);
        }
        for (int hour = 0; hour < 24; hour++) {
            due(x.traffic(hour, hour), 200);
        }
        due(x.traffic(0, 0), 0);
        due(x.traffic(23, 201), -1);
        due(x.traffic(23, 23), 23);
    }

    @Says("TRAFFIC of an hour 0 to 23: 0 to 200 (0 at first).")
    static void hoursAre0To23() {
        all(-1, hour -> x.traffic(hour, 1), MIN, -1, 24, MAX);
        due(x.traffic(0, 1), 0);
        due(x.traffic(23, 1), 0);
    }

    // ---- drives

    @Says("by 100, up.")
    static void drivesGoUp() {
        town();
        x.road(0, 1, 100);
        x.road(0, 2, 1);
        x.road(0, 3, 300);
        due(x.drive(0, 1, 0), 100);
        due(x.drive(0, 2, 0), 1);
        x.traffic(0, 1);
        due(x.drive(0, 1, 0), 101);
        due(x.drive(0, 2, 0), 2);
        due(x.drive(0, 3, 0), 303);
        x.road(0, 1, 99);
        due(x.drive(0, 1, 0), 100);
        x.traffic(0, 100);
        due(x.drive(0, 2, 0), 2);
        x.traffic(0, 101);
        due(x.drive(0, 2, 0), 3);
        x.traffic(0, 200);
        due(x.drive(0, 2, 0), 3);
        due(x.drive(0, 3, 0), 900);
    }

    @Says("its MINUTES times (100 and TRAFFIC of the hour m / 60, or of hour 23, if m is beyond)")
    static void drivesTakeTheHourOfTheirBegin() {
        town();
        x.road(0, 1, 100);
        for (int hour = 0; hour < 24; hour++) {
            x.traffic(hour, hour + 1);
        }
        for (int hour = 0; hour < 24; hour++) {
            due(x.drive(0, 1, 60 * hour), 101 + hour);
            due(x.drive(1, 0, 60 * hour + 59), 101 + hour);
        }
    }

    @Says("BAD: there is no such PLACE (either), they are the same, no such MINUTE.")
    static void aDriveHasTwoPlacesAndAMinute() {
        town();
        all(-1, m -> x.drive(0, 1, m), MIN, -1, 1440, MAX);
        all(-1, a -> x.drive(a, 1, 0), MIN, -1, 1, 4, MAX);
        all(-1, b -> x.drive(1, b, 0), MIN, -1, 1, 4, MAX);
        due(x.drive(3, 0, 0), 60);
        due(x.drive(0, 3, 1439), 60);
    }

    // ---- persons

    @Says("PERSONS, 12 at most, numbered as they come")
    static void twelvePersons() {
        town();
        for (int i = 0; i < 12; i++) {
            due(x.person(i % 4, 0, 1, heardFor(1, 0)), i);
        }
        due(x.person(0, 0, 1, heardFor(1, 0)), -2);
        due(x.many(2), 12);
        due(x.of(11, 0), 3);
        due(x.of(12, 0), -1);
        // what is wrong is BAD ahead of FULL
        due(x.person(4, 0, 1, heardFor(1, 0)), -1);
        due(x.person(0, 1, 1, heardFor(1, 0)), -1);
        due(x.person(0, 0, 0, heardFor(1, 0)), -1);
        due(x.person(0, 0, 1, heardFor(121, 0)), -1);
    }

    @Says("a GROUP (0 man, 1 woman, 2 child, 3 risk)")
    static void groupsAre0To3() {
        town();
        all(-1, g -> x.person(g, 0, 1, heardFor(1, 0)), MIN, -1, 4, MAX);
        due(x.person(0, 0, 1, heardFor(1, 0)), 0);
        due(x.person(3, 0, 1, heardFor(1, 0)), 1);
        due(x.of(1, 0), 3);
    }

    @Says("a HOME (a JAIL or POLICE), a COURT, DUE there at a MINUTE")
    static void aHomeIsNoCourt() {
        all(-1, h -> x.person(0, h, 0, heardFor(1, 0)), MIN, -1, 0, MAX);
        town();
        all(-1, h -> x.person(0, h, 1, heardFor(1, 0)), MIN, -1, 1, 2, 4, MAX);
        all(-1, c -> x.person(0, 0, c, heardFor(1, 0)), MIN, -1, 0, 3, 4, MAX);
        due(x.person(0, 0, 2, heardFor(1, 0)), 0);
        due(x.person(0, 3, 1, heardFor(1, 0)), 1);
    }

    @Says("a LENGTH of hearing (1 to 120)")
    static void lengthsAre1To120() {
        town();
        all(-1, d -> x.person(0, 0, 1, d), MIN, -1440, -1, 0, 1439, 1440 * 121, MAX);
        due(x.person(0, 0, 1, 1440), 0);
        due(x.of(0, 3), 0);
        due(x.of(0, 4), 1);
        due(x.person(0, 0, 1, 1440 * 121 - 1), 1);
        due(x.of(1, 3), 1439);
        due(x.of(1, 4), 120);
    }

    @Says("at first 2 is APART from 0, 1 and 3")
    static void childrenAreApartAtFirst() {
        for (int g = 0; g < 4; g++) {
            for (int h = 0; h < 4; h++) {
                int are = g != h && (g == 2 || h == 2) ? 1 : 0;
                x = new CourtVans();
                due(x.apart(g, h, false), are);
                x = new CourtVans();
                town();
                x.person(g, 0, 1, heardFor(1, 0));
                x.person(h, 0, 1, heardFor(1, 0));
                due(x.foes(0, 1), are);
                due(x.foes(1, 0), are);
            }
        }
    }

    @Says("Two GROUPS may be APART (of one GROUP, too)")
    static void aGroupMayBeApartFromItself() {
        men(2);
        due(x.foes(0, 1), 0);
        due(x.apart(0, 0, true), 0);
        due(x.foes(0, 1), 1);
        due(x.apart(0, 0, true), 1);
        due(x.apart(0, 0, false), 1);
        due(x.foes(0, 1), 0);
        due(x.apart(0, 0, false), 0);
    }

    @Says("GROUPS are APART, or not: 1 if they were, else 0. BAD.")
    static void apartGoesBothWays() {
        due(x.apart(1, 3, true), 0);
        due(x.apart(3, 1, true), 1);
        due(x.apart(3, 1, false), 1);
        due(x.apart(1, 3, false), 0);
        all(-1, g -> x.apart(g, 0, true), MIN, -1, 4, MAX);
        all(-1, g -> x.apart(3, g, true), MIN, -1, 4, 32, MAX);
        due(x.apart(3, 3, false), 0);
    }

    @Says("PERSONS are barred, or not: 1 if they were, else 0. BAD: there is no such PERSON (either), they are the same.")
    static void barsAreOfTwo() {
        all(-1, p -> x.bar(p, 0, true), MIN, -1, 0, 1, MAX);
        men(12);
        all(-1, p -> x.bar(p, 0, true), MIN, -1, 0, 12, MAX);
        all(-1, p -> x.bar(11, p, true), MIN, -1, 11, 12, 43, MAX);
        due(x.bar(11, 0, false), 0);
        due(x.bar(0, 11, true), 0);
        due(x.bar(11, 0, true), 1);
        due(x.bar(0, 11, false), 1);
        due(x.bar(11, 0, false), 0);
    }

    @Says("FOES are two PERSONS who are barred, or whose GROUPS are APART.")
    static void foesAreBarredOrApart() {
        men(2);
        x.person(2, 0, 1, heardFor(1, 0));
        due(x.foes(0, 1), 0);
        due(x.foes(0, 2), 1);
        x.bar(0, 2, true);
        due(x.foes(2, 0), 1);
        x.apart(0, 2, false);
        due(x.foes(2, 0), 1);
        due(x.foes(1, 2), 0);
        x.bar(2, 0, false);
        due(x.foes(0, 2), 0);
        x.bar(0, 1, true);
        due(x.foes(0, 1), 1);
        due(x.foes(1, 2), 0);
    }

    @Says("Whether two PERSONS are FOES: 1, 0. BAD likewise.")
    static void foesAreTwo() {
        all(-1, p -> x.foes(p, 0), MIN, -1, 0, 1, MAX);
        men(12);
        all(-1, p -> x.foes(p, 11), MIN, -1, 11, 12, MAX);
        all(-1, p -> x.foes(0, p), MIN, -1, 0, 12, MAX);
        due(x.foes(0, 11), 0);
        due(x.foes(11, 0), 0);
    }

    @Says("A PERSON is WIRED, or not: 1 if he was, else 0. BAD.")
    static void wiredOrNot() {
        all(-1, p -> x.wire(p, true), MIN, -1, 0, MAX);
        men(12);
        all(-1, p -> x.wire(p, true), MIN, -1, 12, 32, MAX);
        due(x.many(11), 0);
        due(x.wire(11, false), 0);
        due(x.wire(11, true), 0);
        due(x.wire(11, true), 1);
        due(x.many(11), 1);
        due(x.riders(0), 0x7FF);
        due(x.wire(0, true), 0);
        due(x.many(11), 2);
        due(x.wire(11, false), 1);
        due(x.wire(11, false), 0);
        due(x.many(11), 1);
        for (int p = 0; p < 12; p++) {
            x.wire(p, true);
        }
        due(x.many(11), 12);
        due(x.riders(0), 0);
    }

    @Says("BAD: there is none such, another what.")
    static void ofAPersonSixThings() {
        all(-1, p -> x.of(p, 0), MIN, -1, 0, MAX);
        town();
        x.person(3, 3, 2, heardFor(120, 1439));
        all(-1, p -> x.of(p, 0), MIN, -1, 1, MAX);
        all(-1, what -> x.of(0, what), MIN, -1, 6, MAX);
        due(x.of(0, 0), 3);
        due(x.of(0, 1), 3);
        due(x.of(0, 2), 2);
        due(x.of(0, 3), 1439);
        due(x.of(0, 4), 120);
        due(x.of(0, 5), 0);
        x.wire(0, true);
        due(x.of(0, 5), 1);
    }
}
