import java.util.ArrayList;
import java.util.LinkedHashMap;
import java.util.List;
import java.util.Map;

/**
 * A refused call changes nothing, nor does one that only asks: what an object answers to all questions is the same with
 * and without it. Each call is tried on a new object, since the questions take most of its 512 calls.
 */
public final class RefusalsTest extends Edges {
    private interface Call {
        int on(CourtVans x);
    }

    private interface Town {
        CourtVans make();
    }

    private static int wrong = 0;
    private static int tried = 0;

    private RefusalsTest() {}

    public static void main(String[] args) {
        unchanged("half full", RefusalsTest::halfFull, refusedWhenHalfFull());
        unchanged("half full", RefusalsTest::halfFull, questions());
        unchanged("full", RefusalsTest::full, refusedWhenFull());
        unchanged("full", RefusalsTest::full, questionsOfAFullTown());
        unchanged("empty", CourtVans::new, refusedWhenEmpty());
        aFaultUsesUpTheTapeAlone();
        System.out.println(wrong == 0 ? tried + " calls change nothing" : wrong + " answers are not as due");
        if (wrong != 0) {
            System.exit(1);
        }
    }

    // ---- the towns

    private static void feed(CourtVans x, String s) {
        for (int i = 0; i < s.length(); i += 8) {
            int n = Math.min(8, s.length() - i);
            x.feed(eight(s, i, n), n);
        }
    }

    /** JAIL 0, COURT 1 with 2 CELLS of 2, COURT 2 that closes at 500, POLICE 3, COURT 4; a bit of all else. */
    private static CourtVans halfFull() {
        CourtVans x = new CourtVans();
        x.place(0, 20, 1, 1440 * 300 + 1200);
        x.place(1, 2, 2, 1440 * 500 + 1000);
        x.place(1, 6, 4, 500);
        x.place(2, 2, 1, 1439);
        x.place(1, 6, 1, 1439);
        x.road(0, 1, 30);
        x.traffic(8, 20);
        for (int p = 0; p < 9; p++) {
            x.person(p == 8 ? 1 : 0, p == 3 ? 3 : 0, 1, 1440 * 20 + 500 + p);
        }
        x.person(0, 3, 2, 1440 * 20 + 600);
        x.wire(4, true);
        x.bar(0, 1, true);
        x.van(0, 2, 1440 * 300 + 420);
        x.van(0, 6, 1440 * 300 + 430);
        x.delay(0, 430, 0, 5);
        x.delay(1, 0, 2, 9);
        x.enter(0, 1, 510, 2);
        x.enter(1, 1, 505, 1);
        x.minutes(100);
        x.enter(0, 3, 900, 0);
        x.thing(0, 3);
        x.thing(0, -1);
        x.thing(1, 1);
        feed(x, "by van or none over 1 pays 7 each 2;free 1;most 900;");
        x.read();
        x.keep();
        x.minutes(50);
        x.apart(0, 3, true);
        feed(x, "most 5; most 6; ");
        x.prove(0);
        x.alterRow(1, 2, 12345);
        x.sheet(0, 1, 8);
        x.put(0, 0, 700);
        x.put(0, 4, 2);
        x.put(0, 7, -3);
        x.sheet(1, 3, 2);
        x.shelf(0, 0, 1);
        x.shelf(1, 3, 0);
        x.shelf(2, 2, 1);
        x.act(0, 3, 5);
        return x;
    }

    /** As many of all as there may be. */
    private static CourtVans full() {
        CourtVans x = new CourtVans();
        x.place(0, 20, 1, 1439);
        for (int q = 1; q < 8; q++) {
            x.place(q % 3, q % 3 == 1 ? 6 : 9, 1, 1439);
        }
        for (int p = 0; p < 8; p++) {
            x.person(0, 0, 1, 1440 * 20 + 500 + p);
        }
        for (int v = 0; v < 3; v++) {
            x.van(0, 6, 1440 * 300 + 420 + v);
        }
        x.prove(0);
        for (int p = 8; p < 12; p++) {
            x.person(1, 0, 1, 1440 * 20 + 500 + p);
        }
        for (int d = 0; d < 8; d++) {
            x.delay(d % 3, 400 + d, d % 4, 9);
        }
        for (int e = 0; e < 40; e++) {
            x.enter(e % 12, e % 7, 500 + e, e % 4);
        }
        for (int t = 0; t < 16; t++) {
            x.thing(t % 12, t % 9 - 1);
        }
        feed(x, "most 1;most 2;most 3;most 4;most 5;most 6;most 7;most 8;");
        x.read();
        x.keep();
        x.minutes(1439);
        for (int i = 0; i < 25; i++) {
            x.feed(0x3B20362074736F6DL, 8);
        }
        for (int s = 0; s < 4; s++) {
            x.sheet(s, s, 40);
            x.put(s, 39, 5 + s);
            x.shelf(s, 0, 11 - s);
        }
        x.put(1, 39, 3);
        x.act(3, 3, 9);
        return x;
    }

    // ---- what an object answers to all questions

    /** Two halves of the questions, each for an object of its own; the last ones of each change it. */
    private static List<Integer> answers(Town town, Call call) {
        List<Integer> all = new ArrayList<>();
        CourtVans x = town.make();
        if (call != null) {
            all.add(call.on(x));
        }
        askPlaces(x, all);
        x = town.make();
        if (call != null) {
            all.add(call.on(x));
        }
        askTheRest(x, all);
        return all;
    }

    private static void askPlaces(CourtVans x, List<Integer> all) {
        for (int what = 0; what <= 11; what++) {
            all.add(x.many(what));
        }
        for (int i = 0; i < 14; i++) {
            all.add(x.trace(i));
        }
        for (int a = 0; a < 8; a++) {
            for (int b = 0; b < a; b++) {
                all.add(x.drive(a, b, 0));
            }
        }
        for (int hour = 1; hour < 24; hour++) {
            all.add(x.drive(0, 1, 60 * hour));
        }
        for (int p = 0; p < 12; p++) {
            for (int what = 0; what <= 5; what++) {
                all.add(x.of(p, what));
            }
        }
        for (int v = 0; v < 3; v++) {
            all.add(x.route(v, 1, -2));
            all.add(x.shelf(3, 1, v));
            all.add(x.act(3, 1, 0));
        }
        for (int g = 0; g < 4; g++) {
            for (int h = 0; h <= g; h++) {
                all.add(x.apart(g, h, false));
            }
        }
        for (int p = 0; p < 12; p++) {
            for (int q = 0; q < p; q++) {
                all.add(x.bar(p, q, false));
            }
        }
        for (int q = 0; q < 8; q++) {
            all.add(x.shelf(3, 4, q));
            all.add(x.riders(q));
        }
    }

    private static void askTheRest(CourtVans x, List<Integer> all) {
        for (int i = 0; i < 8; i++) {
            for (int what = 0; what < 5; what++) {
                all.add(x.line(i, what));
            }
            for (int what = 0; what < 3; what++) {
                all.add(x.row(i, what));
            }
        }
        for (int s = 0; s < 4; s++) {
            all.add(x.item(s, s == 0 ? 1 : 3, 0));
            all.add(x.item(s, s, 39));
            all.add(x.item(s, 1, 4));
            all.add(x.item(s, 1, 7));
            all.add(x.taken(s, 0));
            all.add(x.taken(s, 11));
        }
        for (int p = 0; p < 12; p++) {
            for (int m = 0; m < 1440; m += 300) {
                all.add(x.at(p, m, 1439));
            }
            all.add(x.came(p, 100));
            all.add(x.heard(p, 1439));
            all.add(x.lacks(p, 0));
            all.add(x.lacks(p, 3));
        }
        for (int q = 0; q < 8; q++) {
            all.add(x.counted(q, 1439, 99, true));
            all.add(x.counted(q, 1439, 1439, false));
        }
        for (int v = 0; v < 3; v++) {
            for (int cause = 0; cause < 5; cause++) {
                all.add(x.part(0, v, cause, 1439));
            }
            all.add(x.fine(0, v, 1439));
        }
        for (int t = 0; t < 16; t++) {
            all.add(x.carry(t, -1));
        }
        // what THE TAPE has, and what is kept
        all.add(x.read());
        all.add(x.line(0, 2));
        all.add(x.line(7, 2));
        all.add(x.again());
        for (int what = 0; what <= 11; what++) {
            all.add(x.many(what));
        }
        all.add(x.line(0, 2));
        all.add(x.apart(0, 3, false));
    }

    private static void unchanged(String name, Town town, Map<String, Object[]> calls) {
        List<Integer> before = answers(town, null);
        int half = firstHalf(town);
        for (Map.Entry<String, Object[]> e : calls.entrySet()) {
            int want = (Integer) e.getValue()[0];
            List<Integer> after = answers(town, (Call) e.getValue()[1]);
            int second = after.remove(half + 1);
            int first = after.remove(0);
            tried++;
            if (first != want || second != want) {
                no(name + ": " + e.getKey() + " answered " + first + ", due is " + want);
            }
            if (!after.equals(before)) {
                no(name + ": " + e.getKey() + " changed something");
            }
        }
    }

    private static int firstHalf(Town town) {
        List<Integer> half = new ArrayList<>();
        askPlaces(town.make(), half);
        return half.size();
    }

    private static void no(String what) {
        wrong++;
        System.out.println(what);
    }

    private static void add(Map<String, Object[]> calls, int want, Call call, String name) {
        if (calls.put(name, new Object[] {want, call}) != null) {
            throw new IllegalStateException(name);
        }
    }

    // ---- the calls

    private static Map<String, Object[]> refusedWhenHalfFull() {
        Map<String, Object[]> c = new LinkedHashMap<>();
        for (int n : new int[] {MIN, -1, 0, 1440, MAX}) {
            add(c, -1, x -> x.minutes(n), "minutes " + n);
        }
        add(c, -4, x -> x.minutes(1439), "minutes 1439");
        for (int n : new int[] {MIN, -1, 3, MAX}) {
            add(c, -1, x -> x.place(n, 1, 1, 0), "place of kind " + n);
        }
        for (int n : new int[] {MIN, -1, 21, MAX}) {
            add(c, -1, x -> x.place(0, n, 1, 0), "place of room " + n);
            add(c, -1, x -> x.place(1, 1, n, 0), "place of cap " + n);
            add(c, -1, x -> x.road(0, n, 5), "road to " + n);
            add(c, -1, x -> x.road(n, 1, 5), "road from " + n);
            add(c, -1, x -> x.traffic(n < 0 ? n : n + 3, 5), "traffic at " + n);
            add(c, -1, x -> x.traffic(8, n < 0 ? n : n == 21 ? 201 : n), "traffic of " + n);
            add(c, -1, x -> x.person(n, 0, 1, 1440), "person of group " + n);
            add(c, -1, x -> x.person(0, n, 1, 1440), "person of home " + n);
            add(c, -1, x -> x.person(0, 0, n, 1440), "person of court " + n);
            add(c, -1, x -> x.apart(n, 0, true), "apart first " + n);
            add(c, -1, x -> x.apart(0, n, true), "apart second " + n);
            add(c, -1, x -> x.bar(n, 0, true), "bar first " + n);
            add(c, -1, x -> x.bar(0, n, true), "bar second " + n);
            add(c, -1, x -> x.wire(n, true), "wire " + n);
            add(c, -1, x -> x.van(n, 1, 1440 * 60), "van at " + n);
            add(c, -1, x -> x.van(0, n, 1440 * 60), "van with seats " + n);
            add(c, -1, x -> x.van(0, 1, n), "van of hours " + n);
            add(c, -1, x -> x.delay(n, 0, 0, 1), "delay of " + n);
            add(c, -1, x -> x.delay(0, n == 21 ? 1440 : n, 0, 1), "delay at " + n);
            add(c, -1, x -> x.delay(0, 0, n, 1), "delay by " + n);
            add(c, -1, x -> x.delay(0, 0, 0, n == 21 ? 241 : n), "delay for " + n);
            add(c, -1, x -> x.prove(n), "prove " + n);
            add(c, -9, x -> x.alterRow(n, 0, 5), "alterRow " + n);
            add(c, -9, x -> x.alterRow(0, n, 5), "alterRow what " + n);
            add(c, -1, x -> x.enter(n, 0, 0, 0), "enter of " + n);
            add(c, -1, x -> x.enter(0, n, 0, 0), "enter at " + n);
            add(c, -1, x -> x.enter(0, 0, n == 21 ? 1440 : n, 0), "enter when " + n);
            add(c, -1, x -> x.enter(0, 0, 0, n), "enter with " + n);
            add(c, -1, x -> x.feed(0L, n), "feed " + n);
            add(c, -1, x -> x.thing(n, 0), "thing of " + n);
            add(c, -1, x -> x.thing(0, n == -1 ? -2 : n), "thing at " + n);
            add(c, -1, x -> x.carry(n, 0), "carry " + n);
            add(c, -1, x -> x.carry(0, n == -1 ? -2 : n), "carry to " + n);
            add(c, -1, x -> x.sheet(n, 0, 1), "sheet " + n);
            add(c, -1, x -> x.sheet(0, n == -1 ? -2 : n, 1), "sheet of sort " + n);
            add(c, n < 0 ? -14 : -1, x -> x.sheet(0, 0, n == 21 ? 41 : n), "sheet of " + n);
            add(c, -1, x -> x.put(n, 0, 1), "put on " + n);
            add(c, -12, x -> x.put(0, n, 1), "put at " + n);
            add(c, -1, x -> x.comes(n, 0), "comes " + n);
            add(c, -12, x -> x.comes(0, n), "comes from " + n);
            add(c, -1, x -> x.shelf(n, 0, 0), "shelf " + n);
            add(c, -1, x -> x.shelf(0, n, 0), "shelf what " + n);
            for (int what = 0; what <= 3; what++) {
                int w = what;
                add(c, -1, x -> x.shelf(0, w, n), "shelf what " + w + " n " + n);
            }
        }
        moreWhenHalfFull(c);
        return c;
    }

    private static void moreWhenHalfFull(Map<String, Object[]> c) {
        add(c, -1, x -> x.place(0, 1, 2, 0), "place of cap 2");
        add(c, -1, x -> x.place(1, 7, 1, 0), "place of 7 cells");
        add(c, -1, x -> x.place(0, 1, 1, 1440), "place of hours 1440");
        add(c, -1, x -> x.road(1, 1, 5), "road to itself");
        add(c, -1, x -> x.road(0, 1, 0), "road of 0");
        add(c, -1, x -> x.road(0, 1, 301), "road of 301");
        add(c, -1, x -> x.person(0, 1, 1, 1440), "person at home in a court");
        add(c, -1, x -> x.person(0, 0, 0, 1440), "person heard in a jail");
        add(c, -1, x -> x.person(0, 0, 1, 1439), "person of length 0");
        add(c, -1, x -> x.bar(2, 2, true), "bar of one");
        add(c, -1, x -> x.van(1, 1, 1440 * 60), "van at a court");
        add(c, -3, x -> x.prove(3), "prove without a van");
        add(c, -1, x -> x.prove(1), "prove of a court");
        add(c, -13, x -> x.comes(1, 0), "comes from longs");
        add(c, -11, x -> x.comes(2, 0), "comes from nothing");
        add(c, -1, x -> x.comes(0, 0), "comes of no person");
        add(c, -12, x -> x.comes(0, 5), "comes beyond the end");
        add(c, -11, x -> x.put(2, 0, 1), "put on nothing");
    }

    private static Map<String, Object[]> refusedWhenFull() {
        Map<String, Object[]> c = new LinkedHashMap<>();
        add(c, -4, x -> x.minutes(1), "minutes");
        for (int kind = 0; kind < 3; kind++) {
            int k = kind;
            add(c, -2, x -> x.place(k, 1, 1, 0), "place " + k);
        }
        add(c, -2, x -> x.person(0, 0, 1, 1440), "person");
        add(c, -2, x -> x.van(0, 1, 1440 * 60), "van");
        add(c, -2, x -> x.delay(0, 0, 0, 1), "delay");
        add(c, -2, x -> x.enter(0, 0, 0, 0), "enter");
        add(c, -2, x -> x.comes(1, 36), "comes");
        add(c, -2, x -> x.thing(0, 0), "thing");
        add(c, -2, x -> x.prove(0), "prove");
        for (int n = 1; n <= 8; n++) {
            int m = n;
            add(c, -2, x -> x.feed(0L, m), "feed " + m);
        }
        add(c, -12, x -> x.put(0, 40, 1), "put");
        add(c, -9, x -> x.alterRow(8, 0, 1), "alterRow");
        return c;
    }

    private static Map<String, Object[]> refusedWhenEmpty() {
        Map<String, Object[]> c = new LinkedHashMap<>();
        add(c, -3, CourtVans::again, "again");
        add(c, -3, CourtVans::drop, "drop");
        add(c, -1, x -> x.road(0, 1, 5), "road");
        add(c, -1, x -> x.person(0, 0, 1, 1440), "person");
        add(c, -1, x -> x.bar(0, 1, true), "bar");
        add(c, -1, x -> x.wire(0, true), "wire");
        add(c, -1, x -> x.van(0, 1, 1440 * 60), "van");
        add(c, -1, x -> x.delay(0, 0, 0, 1), "delay");
        add(c, -1, x -> x.prove(0), "prove");
        add(c, -9, x -> x.alterRow(0, 0, 1), "alterRow");
        add(c, -1, x -> x.enter(0, 0, 0, 0), "enter");
        add(c, -1, x -> x.thing(0, -1), "thing");
        add(c, -1, x -> x.carry(0, -1), "carry");
        add(c, -11, x -> x.put(0, 0, 1), "put");
        add(c, -11, x -> x.comes(0, 0), "comes");
        add(c, -1, x -> x.shelf(0, 0, 0), "shelf of a person");
        add(c, -1, x -> x.shelf(0, 1, 0), "shelf of a van");
        add(c, -1, x -> x.shelf(0, 2, 0), "shelf of a thing");
        add(c, 0, CourtVans::read, "read");
        add(c, 1, x -> x.shelf(0, 3, 0), "shelf of a missing row");
        add(c, 0, x -> x.act(0, 0, 1), "act of nothing");
        return c;
    }

    /** Calls that only ask, refused or not. */
    private static Map<String, Object[]> questions() {
        Map<String, Object[]> c = new LinkedHashMap<>();
        add(c, 36, x -> x.drive(0, 1, 480), "drive");
        add(c, -1, x -> x.drive(0, 0, 480), "drive to itself");
        add(c, 1, x -> x.foes(0, 1), "foes");
        add(c, 3, x -> x.of(3, 1), "of");
        add(c, 500, x -> x.route(0, 1, -2), "route");
        add(c, -3, x -> x.route(0, 1, 1), "route beyond");
        add(c, -1, x -> x.route(0, 8, -1), "route of another home");
        add(c, 500, x -> x.arrival(0, 1, 0), "arrival");
        add(c, 0x1E7, x -> x.riders(0), "riders");
        add(c, 0, x -> x.plan(0), "plan");
        add(c, 1, x -> x.vanOf(1), "vanOf");
        add(c, -3, x -> x.vanOf(3), "vanOf without a van");
        add(c, -3, x -> x.plan(3), "plan without a van");
        add(c, -4, x -> x.vanOf(4), "vanOf a wired one");
        add(c, 0, x -> x.less(0), "less");
        add(c, 0x208, x -> x.less(3), "less without a van");
        add(c, 0, x -> x.bound(0), "bound");
        add(c, -3, x -> x.bound(3), "bound without a van");
        add(c, 12345, x -> x.row(1, 2), "row");
        add(c, -9, x -> x.row(7, 0), "row beyond");
        add(c, -101, x -> x.judge(0), "judge");
        add(c, -103, x -> x.judge(3), "judge of another place");
        add(c, 2, x -> x.held(1, 7, -1), "held");
        add(c, -4, x -> x.held(1, 255, -1), "held by too few");
        add(c, -2, x -> x.held(1, 511, -1), "held too many");
        add(c, -3, x -> x.held(1, 7, 5), "held another one");
        add(c, 1, x -> x.at(0, 600, 1439), "at");
        add(c, 1, x -> x.counted(1, 600, 1439, true), "counted");
        add(c, 510, x -> x.came(0, 0), "came");
        add(c, -3, x -> x.came(5, 0), "came not");
        add(c, 540, x -> x.heard(0, 0), "heard");
        add(c, -3, x -> x.heard(5, 0), "heard not");
        add(c, -9, x -> x.line(9, 0), "line");
        add(c, 5, x -> x.part(0, 0, 0, 1439), "part");
        add(c, 28, x -> x.fine(0, 0, 1439), "fine");
        add(c, 0, x -> x.night(1, 1, 600, -1), "night");
        add(c, -4, x -> x.night(1, 1, 1439, -1), "night without a way");
        add(c, -2, x -> x.night(1, 127, 600, -1), "night of too many");
        add(c, -3, x -> x.night(1, 1, 600, 5), "night of another one");
        add(c, 1, x -> x.lacks(0, 0), "lacks");
        add(c, 120, x -> x.fetch(0, 0), "fetch");
        add(c, 700, x -> x.item(0, 1, 0), "item");
        add(c, -13, x -> x.item(0, 2, 0), "item of another sort");
        add(c, 8, x -> x.taken(1, 11), "taken");
        add(c, -13, x -> x.taken(1, 0), "taken for another kind");
        add(c, -1, x -> x.taken(1, 7), "taken for nothing");
        add(c, -3, x -> x.trace(-1), "trace");
        add(c, -1, x -> x.many(12), "many");
        return c;
    }

    private static Map<String, Object[]> questionsOfAFullTown() {
        Map<String, Object[]> c = new LinkedHashMap<>();
        add(c, -2, x -> x.plan(0), "plan");
        add(c, -2, x -> x.vanOf(0), "vanOf");
        add(c, -2, x -> x.less(0), "less");
        add(c, 4095, x -> x.riders(0), "riders");
        add(c, 8, x -> x.row(7, 0) + 1, "row");
        add(c, -2, x -> x.held(1, 511, 0), "held");
        add(c, -2, x -> x.night(1, 127, 600, 0), "night");
        return c;
    }

    /** "such a call changes nothing (but that THE TAPE is used up)" */
    private static void aFaultUsesUpTheTapeAlone() {
        Town emptyTape = () -> {
            CourtVans x = new CourtVans();
            x.minutes(7);
            feed(x, "free 3;");
            x.read();
            return x;
        };
        Call fault = x -> {
            feed(x, "most 1;most 2;van");
            return x.read();
        };
        Map<String, Object[]> c = new LinkedHashMap<>();
        add(c, -114, fault, "read of a fault");
        unchanged("after a fault", emptyTape, c);
    }
}
