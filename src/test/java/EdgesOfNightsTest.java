/** Edges of the night and of things: promises 38 to 42. */
public final class EdgesOfNightsTest extends Edges {
    private EdgesOfNightsTest() {}

    public static void main(String[] args) throws Exception {
        run(EdgesOfNightsTest.class);
    }

    /** COURT 0, JAIL 1 with some ROOM, open as told. */
    private static void jail(int room, int from, int till) {
        x.place(1, 1, 1, hours(0, 1439));
        x.place(0, room, 1, hours(from, till));
    }

    /** n men of JAIL 1 who are AT COURT 0 from 0 on. */
    private static void inCourt(int n) {
        for (int i = 0; i < n; i++) {
            int p = x.person(0, 1, 0, heardFor(1, 0));
            x.enter(p, 0, 0, 2);
        }
    }

    private static void goes(int persons, int m, int... places) {
        int at = 0;
        for (int p = 0; p < 12; p++) {
            if ((persons >> p & 1) == 1) {
                due(x.night(0, persons, m, p), places[at]);
                at++;
            }
        }
    }

    // ---- THE NIGHT

    @Says("some PERSONS (6 at most) leave a COURT at a MINUTE m")
    static void sixAtNight() {
        jail(20, 0, 1439);
        inCourt(12);
        due(x.night(0, 63, 600, -2), 360);
        due(x.night(0, 63 << 6, 600, -2), 360);
        due(x.night(0, 127, 600, -2), -2);
        due(x.night(0, 4095, 600, 0), -2);
        due(x.night(0, 63, 600, -1), 0);
    }

    @Says("THE NIGHT of PERSONS (bits) from a COURT at m: what = -1 how many don't go HOME, -2 the sum of DRIVES")
    static void nobodyAtNight() {
        jail(0, 0, 0);
        due(x.night(0, 0, 600, -1), 0);
        due(x.night(0, 0, 600, -2), 0);
        all(-1, what -> x.night(0, 0, 600, what), -3, 0, 1);
        inCourt(1);
        due(x.night(0, 0, 600, -1), 0);
        due(x.night(0, 0, 600, -2), 0);
        due(x.night(0, 0, 600, 0), -3);
        due(x.night(0, 1, 600, -1), -4);
    }

    @Says("each to a PLACE (no COURT)")
    static void noCourtAtNight() {
        jail(1, 0, 1439);
        x.place(1, 6, 4, hours(0, 1439));
        inCourt(2);
        due(x.night(0, 1, 600, 0), 1);
        due(x.night(0, 3, 600, -1), -4);
        x.place(2, 1, 1, hours(0, 1439));
        goes(3, 600, 1, 3);
    }

    @Says("that is OPEN when his DRIVE from m ends")
    static void openWhenTheDriveEnds() {
        jail(20, 600, 700);
        inCourt(1);
        due(x.night(0, 1, 539, -1), -4);
        due(x.night(0, 1, 540, -1), 0);
        due(x.night(0, 1, 640, -1), 0);
        due(x.night(0, 1, 641, -1), -4);
        due(x.night(0, 1, 641, 0), -4);
        // TRAFFIC of the hour of m
        x.traffic(10, 1);
        due(x.night(0, 1, 639, -2), 61);
        due(x.night(0, 1, 640, -2), -4);
    }

    @Says("that is OPEN when his DRIVE from m ends")
    static void noNightBehindTheDay() {
        jail(20, 0, 1439);
        inCourt(1);
        due(x.night(0, 1, 1379, -2), 60);
        due(x.night(0, 1, 1380, -2), -4);
        due(x.night(0, 1, 1439, -2), -4);
        x.road(0, 1, 1);
        due(x.night(0, 1, 1438, -2), 1);
        due(x.night(0, 1, 1439, -2), -4);
    }

    @Says("and has ROOM: ROOM less those of other PERSONS who are AT it at m, as KNOWN NOW")
    static void roomJustEnough() {
        jail(2, 0, 1439);
        inCourt(4);
        due(x.night(0, 3, 600, -1), 0);
        due(x.night(0, 7, 600, -1), -4);
        // one is there: one has room
        x.enter(3, 1, 600, 2);
        due(x.night(0, 3, 599, -1), 0);
        due(x.night(0, 3, 600, -1), -4);
        due(x.night(0, 1, 600, -1), 0);
        // he himself and another one of those who leave take no room
        due(x.night(0, 9, 600, -1), 0);
        due(x.night(0, 8, 600, -1), 0);
        x.enter(2, 1, 600, 2);
        due(x.night(0, 1, 600, -1), -4);
        due(x.night(0, 12, 600, -1), 0);
    }

    @Says("and has ROOM: ROOM less those of other PERSONS who are AT it at m, as KNOWN NOW")
    static void lessRoomThanThoseWhoAreThere() {
        jail(0, 0, 1439);
        inCourt(3);
        x.enter(1, 1, 10, 2);
        x.enter(2, 1, 10, 2);
        due(x.night(0, 1, 600, -1), -4);
        x = new CourtVans();
        jail(1, 0, 1439);
        inCourt(3);
        x.enter(1, 1, 10, 2);
        x.enter(2, 1, 10, 2);
        due(x.night(0, 1, 600, -1), -4);
        due(x.night(0, 2, 600, -1), -4);
        // of three who leave together one has room
        due(x.night(0, 7, 600, -1), -4);
    }

    @Says("as KNOWN NOW")
    static void whatIsKnownNow() {
        jail(1, 0, 1439);
        x.person(0, 1, 0, heardFor(1, 0));
        x.person(0, 1, 0, heardFor(1, 0));
        // 1 is at HOME, till his ENTRY is told
        due(x.night(0, 1, 600, -1), -4);
        x.minutes(700);
        x.enter(1, 0, 600, 0);
        due(x.night(0, 1, 599, -1), -4);
        due(x.night(0, 1, 600, -1), 0);
    }

    @Says("ROOM less those of other PERSONS who are AT it at m")
    static void theFirstPersonTakesRoom() {
        jail(1, 0, 1439);
        inCourt(2);
        due(x.night(0, 2, 600, -1), 0);
        x.enter(0, 1, 600, 2);
        due(x.night(0, 2, 599, -1), 0);
        due(x.night(0, 2, 600, -1), -4);
        due(x.night(0, 3, 600, -1), -4);
        due(x.night(0, 1, 600, -1), 0);
    }

    @Says("each to a PLACE (no COURT)")
    static void theFirstPlaceAndTheLastOne() {
        x.place(0, 1, 1, hours(0, 1439));
        for (int q = 1; q < 7; q++) {
            x.place(1, 1, 1, hours(0, 1439));
        }
        x.place(2, 1, 1, hours(0, 1439));
        x.person(0, 7, 3, heardFor(1, 0));
        x.person(0, 0, 3, heardFor(1, 0));
        x.road(3, 0, 100);
        x.road(3, 7, 200);
        due(x.night(3, 3, 600, -1), 0);
        due(x.night(3, 3, 600, -2), 300);
        due(x.night(3, 3, 600, 0), 7);
        due(x.night(3, 3, 600, 1), 0);
        // nobody is at 7 but he who is asked for: the other one is AT 0
        due(x.night(3, 1, 600, -2), 200);
        due(x.night(3, 2, 600, -2), 100);
    }

    @Says("That with the fewest who don't go HOME")
    static void homesOfTwo() {
        jail(2, 0, 1439);
        x.place(2, 1, 1, hours(0, 1439));
        inCourt(1);
        x.person(0, 2, 0, heardFor(1, 0));
        x.enter(1, 0, 0, 2);
        x.road(0, 1, 300);
        x.road(0, 2, 1);
        goes(3, 600, 1, 2);
        due(x.night(0, 3, 600, -1), 0);
        due(x.night(0, 3, 600, -2), 301);
        // of two who would go HOME to one room the first one goes to the lesser PLACE
        x.person(0, 2, 0, heardFor(1, 0));
        x.enter(2, 0, 0, 2);
        goes(7, 600, 1, 1, 2);
        due(x.night(0, 7, 600, -1), 1);
        goes(6, 600, 1, 2);
    }

    @Says("That with the fewest who don't go HOME")
    static void theFewestWhoDoNotGoHome() {
        jail(1, 0, 1439);
        x.place(2, 20, 1, hours(0, 1439));
        x.road(0, 1, 300);
        x.road(0, 2, 1);
        x.traffic(10, 200);
        inCourt(2);
        // HOME, though it is much farther; in the hour of 600 it is too far
        due(x.night(0, 1, 600, -1), 1);
        due(x.night(0, 1, 600, -2), 3);
        due(x.night(0, 1, 530, -1), 0);
        due(x.night(0, 1, 530, -2), 300);
        due(x.night(0, 3, 530, -1), 1);
        due(x.night(0, 3, 530, -2), 301);
        goes(3, 530, 1, 2);
    }

    @Says("then the least sum of DRIVES")
    static void thenTheLeastSumOfDrives() {
        jail(0, 0, 1439);
        x.place(2, 1, 1, hours(0, 1439));
        x.place(2, 1, 1, hours(0, 1439));
        x.place(2, 1, 1, hours(0, 1439));
        x.road(0, 2, 61);
        x.road(0, 3, 60);
        x.road(0, 4, 59);
        inCourt(3);
        due(x.night(0, 1, 600, 0), 4);
        due(x.night(0, 1, 600, -2), 59);
        goes(3, 600, 3, 4);
        due(x.night(0, 3, 600, -2), 119);
        goes(7, 600, 2, 3, 4);
        due(x.night(0, 7, 600, -2), 180);
        due(x.night(0, 7, 600, -1), 3);
    }

    @Says("then that in which the first PERSON, by numbers, for whom two differ goes to the lesser PLACE")
    static void thenTheFirstPersonToTheLesserPlace() {
        jail(0, 0, 1439);
        x.place(2, 2, 1, hours(0, 1439));
        x.place(2, 2, 1, hours(0, 1439));
        inCourt(4);
        goes(1, 600, 2);
        goes(7, 600, 2, 2, 3);
        goes(15, 600, 2, 2, 3, 3);
        x.road(0, 2, 61);
        goes(7, 600, 2, 3, 3);
    }

    @Says("BAD: there is no such COURT, PERSON, MINUTE, another what; FULL: more than 6; STATE: there is no way (both ahead of NONE).")
    static void nightRefusesInOrder() {
        all(-1, c -> x.night(c, 0, 0, -1), MIN, -1, 0, MAX);
        jail(6, 0, 1439);
        inCourt(12);
        all(-1, c -> x.night(c, 1, 600, -1), MIN, -1, 1, 2, MAX);
        all(-1, bits -> x.night(0, bits, 600, -1), MIN, MIN | 1, -1, 4096, 4097, MAX);
        all(-1, m -> x.night(0, 1, m, -1), MIN, -1, 1440, MAX);
        all(-1, what -> x.night(0, 1, 600, what), MIN, -3, 12, MAX);
        due(x.night(0, 127, 600, 12), -1);
        due(x.night(0, 127, 600, -3), -1);
        due(x.night(0, 127, 1440, 0), -1);
        due(x.night(0, 127, 1439, 11), -2);
        due(x.night(0, 63, 1439, 12), -1);
        due(x.night(0, 63, 1439, 11), -4);
        due(x.night(0, 63, 600, 11), -3);
        due(x.night(0, 63, 600, 6), -3);
        due(x.night(0, 63, 600, 5), 1);
        due(x.night(0, 63, 0, 5), 1);
    }

    // ---- THINGS

    @Says("THINGS, 16 at most, numbered as they come: of a PERSON, at a PLACE, or with him.")
    static void sixteenThings() {
        all(-1, p -> x.thing(p, -1), MIN, -1, 0, MAX);
        men(12);
        all(-1, p -> x.thing(p, -1), MIN, -1, 12, MAX);
        all(-1, q -> x.thing(0, q), MIN, -2, 4, MAX);
        for (int i = 0; i < 16; i++) {
            due(x.thing(11, i % 5 - 1), i);
        }
        due(x.thing(0, 0), -2);
        due(x.many(6), 16);
        // what is wrong is BAD ahead of FULL
        due(x.thing(12, 0), -1);
        due(x.thing(0, 4), -1);
        due(x.thing(0, -2), -1);
    }

    @Says("A THING is at a PLACE (-1: with him): where it was (NONE: with him). BAD.")
    static void carriedThings() {
        all(-1, t -> x.carry(t, -1), MIN, -1, 0, MAX);
        men(1);
        for (int i = 0; i < 16; i++) {
            x.thing(0, -1);
        }
        all(-1, t -> x.carry(t, 0), MIN, -1, 16, MAX);
        all(-1, q -> x.carry(0, q), MIN, -2, 4, MAX);
        due(x.carry(15, 0), -3);
        due(x.carry(15, 3), 0);
        due(x.carry(15, -1), 3);
        due(x.carry(15, -1), -3);
        due(x.carry(0, 0), -3);
        due(x.carry(0, 1), 0);
    }

    @Says("LET GO at a PLACE he LACKS those of his that are neither there nor with him.")
    static void neitherThereNorWithHim() {
        men(2);
        due(x.lacks(0, 0), 0);
        x.thing(0, 0);
        x.thing(0, -1);
        x.thing(1, 2);
        due(x.lacks(0, 0), 0);
        due(x.lacks(0, 1), 1);
        due(x.lacks(1, 0), 4);
        due(x.lacks(1, 2), 0);
        for (int i = 3; i < 16; i++) {
            x.thing(0, 3);
        }
        due(x.lacks(0, 3), 1);
        due(x.lacks(0, 0), 0xFFF8);
        due(x.lacks(0, 2), 0xFFF9);
        x.carry(15, -1);
        due(x.lacks(0, 2), 0x7FF9);
    }

    @Says("What a PERSON LACKS at a PLACE, as bits of THINGS. BAD: there is none such (either).")
    static void lacksNumbers() {
        all(-1, p -> x.lacks(p, 0), MIN, -1, 0, MAX);
        men(12);
        all(-1, p -> x.lacks(p, 0), MIN, -1, 12, MAX);
        all(-1, q -> x.lacks(0, q), MIN, -1, 4, MAX);
        due(x.lacks(11, 3), 0);
    }

    // ---- FETCH

    @Says("FETCH. BAD likewise.")
    static void fetchNumbers() {
        all(-1, p -> x.fetch(p, 0), MIN, -1, 0, MAX);
        men(12);
        all(-1, p -> x.fetch(p, 0), MIN, -1, 12, MAX);
        all(-1, q -> x.fetch(0, q), MIN, -1, 4, MAX);
        due(x.fetch(11, 3), 0);
    }

    @Says("the shortest way (by MINUTES, without TRAFFIC) from there by all PLACES where these are, and back")
    static void noWayOneWayAndBack() {
        men(1);
        due(x.fetch(0, 0), 0);
        x.thing(0, 0);
        x.thing(0, -1);
        due(x.fetch(0, 0), 0);
        x.thing(0, 2);
        x.thing(0, 2);
        due(x.fetch(0, 0), 120);
        due(x.fetch(0, 2), 120);
        due(x.fetch(0, 1), 180);
        for (int hour = 0; hour < 24; hour++) {
            x.traffic(hour, 200);
        }
        due(x.fetch(0, 0), 120);
        x.carry(2, 0);
        x.carry(3, -1);
        due(x.fetch(0, 0), 0);
    }

    @Says("by direct ROADS alone, each time to one of these PLACES that is not done yet, and from the last one back")
    static void byDirectRoadsAlone() {
        men(1);
        x.thing(0, 1);
        x.thing(0, 2);
        x.road(0, 1, 300);
        x.road(0, 2, 300);
        x.road(1, 2, 300);
        x.road(0, 3, 1);
        x.road(1, 3, 1);
        x.road(2, 3, 1);
        // by 3, or by 0 again, it would be shorter
        due(x.fetch(0, 0), 900);
        x.thing(0, 3);
        due(x.fetch(0, 0), 602);
        x.road(1, 2, 1);
        x.road(0, 1, 10);
        due(x.fetch(0, 0), 13);
    }

    @Says("the shortest way (by MINUTES, without TRAFFIC) from there by all PLACES where these are, and back")
    static void byAllEightPlaces() {
        for (int i = 0; i < 8; i++) {
            x.place(i == 1 ? 1 : 0, 1, 1, 0);
        }
        x.person(0, 0, 1, heardFor(1, 0));
        for (int i = 0; i < 8; i++) {
            x.thing(0, i);
        }
        for (int a = 0; a < 8; a++) {
            for (int b = 0; b < a; b++) {
                x.road(a, b, 300);
            }
        }
        due(x.fetch(0, 0), 8 * 300);
        due(x.fetch(0, 7), 8 * 300);
        // the one cheap way round: 0 5 2 7 4 1 6 3 0
        for (int i = 0; i < 8; i++) {
            x.road(5 * i % 8, 5 * (i + 1) % 8, 1);
        }
        due(x.fetch(0, 0), 8);
        due(x.fetch(0, 3), 8);
        x.road(0, 5, 2);
        due(x.fetch(0, 0), 9);
    }
}
