import java.lang.reflect.Constructor;
import java.lang.reflect.Field;
import java.lang.reflect.Method;
import java.lang.reflect.Modifier;

/** Each promise by hand: ordinary calls, the edges that the document names, wrong calls. */
public final class PromisesTest extends Edges {
    private PromisesTest() {}

    public static void main(String[] args) throws Exception {
        begin(PromisesTest.class.getDeclaredMethod("face"));
        face();
        for (int i = 1; i <= 53; i++) {
            Method promise = PromisesTest.class.getDeclaredMethod("p" + i);
            begin(promise);
            promise.invoke(null);
        }
        end("all 53 promises hold");
    }

    private static void face() {
        due(CourtVans.BAD, -1);
        due(CourtVans.FULL, -2);
        due(CourtVans.NONE, -3);
        due(CourtVans.STATE, -4);
        int methods = 0;
        for (Method m : CourtVans.class.getDeclaredMethods()) {
            if (!Modifier.isPrivate(m.getModifiers()) && !m.isSynthetic()) {
                methods++;
                due(Modifier.isPublic(m.getModifiers()) && m.getReturnType() == int.class ? 1 : 0, 1);
            }
        }
        due(methods, 52);
        int fields = 0;
        for (Field f : CourtVans.class.getDeclaredFields()) {
            fields += Modifier.isPrivate(f.getModifiers()) ? 0 : 1;
        }
        due(fields, 4);
        Constructor<?>[] c = CourtVans.class.getConstructors();
        due(c.length, 1);
        due(c[0].getParameterCount(), 0);
        due(Modifier.isFinal(CourtVans.class.getModifiers()) ? 1 : 0, 1);
    }

    static void p1() {
        for (int what = 0; what <= 11; what++) {
            due(x.many(what), 0);
        }
        due(x.row(0, 0), -9);
        due(x.line(0, 0), -9);
        due(x.trace(0), -3);
        due(x.taken(0, 0), -11);
        due(x.item(0, 0, 0), -11);
        due(x.again(), -3);
        due(x.riders(0), -1);
        // objects have nothing in common
        x.minutes(5);
        due(new CourtVans().many(0), 0);
    }

    static void p2() {
        due(x.minutes(0), -1);
        due(x.minutes(-1), -1);
        due(x.minutes(1440), -1);
        due(x.minutes(Integer.MAX_VALUE), -1);
        due(x.minutes(1), 1);
        due(x.minutes(1439), -4);
        due(x.many(0), 1);
        due(x.minutes(1438), 1439);
        due(x.minutes(1), -4);
        due(new CourtVans().minutes(1439), 1439);
    }

    static void p3() {
        due(x.place(-1, 1, 1, 0), -1);
        due(x.place(3, 1, 1, 0), -1);
        due(x.place(0, -1, 1, 0), -1);
        due(x.place(0, 21, 1, 0), -1);
        due(x.place(0, 1, 0, 0), -1);
        due(x.place(0, 1, 2, 0), -1);
        due(x.place(2, 1, 2, 0), -1);
        due(x.place(1, 7, 1, 0), -1);
        due(x.place(1, -1, 1, 0), -1);
        due(x.place(1, 1, 0, 0), -1);
        due(x.place(1, 1, 5, 0), -1);
        due(x.place(0, 1, 1, -1), -1);
        due(x.place(0, 1, 1, hours(1440, 1439)), -1);
        due(x.place(0, 1, 1, hours(5, 4)), -1);
        due(x.many(1), 0);
        due(x.place(0, 20, 1, hours(5, 5)), 0);
        due(x.place(0, 0, 1, hours(1439, 1439)), 1);
        due(x.place(1, 6, 4, 0), 2);
        due(x.place(1, 0, 1, hours(0, 1439)), 3);
        due(x.place(2, 20, 1, 0), 4);
        x.place(2, 1, 1, 0);
        x.place(2, 1, 1, 0);
        due(x.place(2, 1, 1, 0), 7);
        due(x.place(2, 1, 1, 0), -2);
        due(x.place(2, 1, 2, 0), -1);
        due(x.many(1), 8);
    }

    static void p4() {
        town();
        due(x.road(0, 1, 1), 60);
        due(x.road(1, 0, 300), 1);
        due(x.road(0, 1, 301), -1);
        due(x.road(0, 1, 0), -1);
        due(x.road(0, 4, 5), -1);
        due(x.road(4, 0, 5), -1);
        due(x.road(-1, 0, 5), -1);
        due(x.road(1, 1, 5), -1);
        due(x.road(0, 1, 7), 300);
        due(x.road(0, 2, 7), 60);
    }

    static void p5() {
        due(x.traffic(0, 200), 0);
        due(x.traffic(0, 0), 200);
        due(x.traffic(23, 7), 0);
        due(x.traffic(23, 201), -1);
        due(x.traffic(23, -1), -1);
        due(x.traffic(24, 1), -1);
        due(x.traffic(-1, 1), -1);
        due(x.traffic(23, 7), 7);
    }

    static void p6() {
        town();
        x.traffic(1, 1);
        x.traffic(23, 200);
        due(x.drive(0, 1, 0), 60);
        due(x.drive(0, 1, 59), 60);
        due(x.drive(0, 1, 60), 61);
        due(x.drive(1, 0, 119), 61);
        due(x.drive(1, 0, 120), 60);
        due(x.drive(0, 1, 1439), 180);
        due(x.drive(0, 1, 1440), -1);
        due(x.drive(0, 1, -1), -1);
        due(x.drive(0, 0, 1), -1);
        due(x.drive(0, 4, 1), -1);
        due(x.drive(-1, 0, 1), -1);
        x.road(0, 1, 100);
        due(x.drive(0, 1, 60), 101);
    }

    static void p7() {
        town();
        due(x.person(-1, 0, 1, heardFor(1, 0)), -1);
        due(x.person(4, 0, 1, heardFor(1, 0)), -1);
        due(x.person(0, 1, 1, heardFor(1, 0)), -1);
        due(x.person(0, 4, 1, heardFor(1, 0)), -1);
        due(x.person(0, 0, 0, heardFor(1, 0)), -1);
        due(x.person(0, 0, 3, heardFor(1, 0)), -1);
        due(x.person(0, 0, -1, heardFor(1, 0)), -1);
        due(x.person(0, 0, 1, 1439), -1);
        due(x.person(0, 0, 1, heardFor(121, 0)), -1);
        due(x.person(0, 0, 1, -1440), -1);
        due(x.person(0, 0, 1, -1), -1);
        due(x.many(2), 0);
        due(x.person(3, 3, 2, heardFor(120, 1439)), 0);
        for (int i = 1; i < 12; i++) {
            due(x.person(0, 0, 1, heardFor(1, 0)), i);
        }
        due(x.person(0, 0, 1, heardFor(1, 0)), -2);
        due(x.person(0, 1, 1, heardFor(1, 0)), -1);
        due(x.many(2), 12);
    }

    static void p8() {
        for (int g = 0; g < 4; g++) {
            for (int h = 0; h < 4; h++) {
                int were = g != h && (g == 2 || h == 2) ? 1 : 0;
                due(x.apart(g, h, were == 1), were);
            }
        }
        due(x.apart(0, 1, true), 0);
        due(x.apart(1, 0, false), 1);
        due(x.apart(0, 1, false), 0);
        due(x.apart(3, 3, true), 0);
        due(x.apart(3, 3, true), 1);
        due(x.apart(4, 0, true), -1);
        due(x.apart(0, 4, true), -1);
        due(x.apart(-1, 0, true), -1);
    }

    static void p9() {
        men(3);
        due(x.bar(0, 1, false), 0);
        due(x.bar(0, 1, true), 0);
        due(x.bar(1, 0, true), 1);
        due(x.bar(1, 0, false), 1);
        due(x.bar(0, 1, true), 0);
        due(x.bar(0, 2, true), 0);
        due(x.bar(0, 0, true), -1);
        due(x.bar(0, 3, true), -1);
        due(x.bar(3, 0, true), -1);
        due(x.bar(-1, 0, true), -1);
    }

    static void p10() {
        men(2);
        x.person(2, 0, 1, heardFor(1, 0));
        due(x.foes(0, 1), 0);
        due(x.foes(0, 2), 1);
        due(x.foes(2, 0), 1);
        x.bar(1, 0, true);
        due(x.foes(0, 1), 1);
        x.bar(1, 0, false);
        x.apart(0, 0, true);
        due(x.foes(1, 0), 1);
        x.apart(0, 2, false);
        due(x.foes(0, 2), 0);
        due(x.foes(0, 0), -1);
        due(x.foes(0, 3), -1);
        due(x.foes(-1, 0), -1);
    }

    static void p11() {
        men(2);
        due(x.wire(0, false), 0);
        due(x.wire(0, true), 0);
        due(x.wire(0, true), 1);
        due(x.many(11), 1);
        due(x.riders(0), 2);
        due(x.wire(0, false), 1);
        due(x.riders(0), 3);
        due(x.wire(2, true), -1);
        due(x.wire(-1, true), -1);
    }

    static void p12() {
        town();
        x.person(3, 3, 2, heardFor(120, 1439));
        int[] want = {3, 3, 2, 1439, 120, 0};
        for (int what = 0; what < 6; what++) {
            due(x.of(0, what), want[what]);
        }
        x.wire(0, true);
        due(x.of(0, 5), 1);
        due(x.of(0, 6), -1);
        due(x.of(0, -1), -1);
        due(x.of(1, 0), -1);
        due(x.of(-1, 0), -1);
    }

    static void p13() {
        town();
        due(x.van(1, 1, hours(60, 0)), -1);
        due(x.van(4, 1, hours(60, 0)), -1);
        due(x.van(0, 0, hours(60, 0)), -1);
        due(x.van(0, 7, hours(60, 0)), -1);
        due(x.van(0, 1, hours(59, 1439)), -1);
        due(x.van(0, 1, hours(901, 0)), -1);
        due(x.van(0, 1, -1), -1);
        due(x.van(0, 1, hours(60, 0)), 0);
        due(x.van(3, 6, hours(900, 1439)), 1);
        due(x.van(0, 6, hours(900, 0)), 2);
        due(x.van(0, 6, hours(900, 0)), -2);
        due(x.van(1, 6, hours(900, 0)), -1);
        due(x.many(3), 3);
    }

    static void p14() {
        town();
        due(x.delay(0, 0, 0, 1), -1);
        x.van(0, 1, hours(60, 0));
        due(x.delay(0, -1, 0, 1), -1);
        due(x.delay(0, 1440, 0, 1), -1);
        due(x.delay(0, 0, 4, 1), -1);
        due(x.delay(0, 0, -1, 1), -1);
        due(x.delay(0, 0, 0, 0), -1);
        due(x.delay(0, 0, 0, 241), -1);
        for (int i = 0; i < 8; i++) {
            due(x.delay(0, i == 0 ? 0 : 1439, i % 4, i == 0 ? 1 : 240), i);
        }
        due(x.delay(0, 0, 0, 1), -2);
        due(x.delay(1, 0, 0, 1), -1);
        due(x.many(4), 8);
    }

    static void p15() {
        town();
        x.person(0, 0, 1, heardFor(10, 500));
        x.person(0, 0, 2, heardFor(10, 480));
        x.person(0, 3, 2, heardFor(10, 480));
        due(x.route(0, 1, -1), -1);
        x.van(0, 1, hours(300, 420));
        // 420 to 480 and 540: by 1, 2 it is 0 + 60, by 2, 1 it is 0 + 40
        due(x.route(0, 3, -1), 40);
        due(x.route(0, 3, -2), 540);
        due(x.route(0, 3, 0), 2);
        due(x.route(0, 3, 1), 1);
        due(x.route(0, 3, 2), -3);
        due(x.route(0, 3, 1000), -3);
        due(x.route(0, 3, -3), -1);
        due(x.route(0, 0, -1), -1);
        due(x.route(0, 4, -1), -1);
        due(x.route(0, 8, -1), -1);
        due(x.route(0, -1, -1), -1);
        due(x.route(1, 1, -1), -1);
        due(x.route(-1, 1, -1), -1);
        // traffic of the hour in which it leaves: 8 to 9 costs 30 more
        x.traffic(8, 50);
        due(x.route(0, 3, -2), 570);
        x.traffic(8, 0);
        // a DELAY from the very time on is lost, one from a later time at the next COURT alone
        x.delay(0, 420, 0, 5);
        x.delay(0, 421, 0, 7);
        due(x.route(0, 2, -2), 485);
        due(x.route(0, 3, -2), 552);
        rideEdges();
    }

    private static void rideEdges() {
        x = new CourtVans();
        x.place(0, 5, 1, hours(430, 500));
        x.place(1, 1, 1, hours(495, 600));
        x.place(1, 1, 1, hours(0, 560));
        x.person(0, 0, 1, heardFor(1, 490));
        x.person(0, 0, 2, heardFor(1, 490));
        x.van(0, 1, hours(140, 420));
        // it waits till 430, and at COURT 1 from 490 till 495
        due(x.route(0, 1, -1), 5);
        due(x.route(0, 1, -2), 495);
        // by 1, 2 COURT 2 is reached at 555; by 2, 1 it is 490, 550: less late
        due(x.route(0, 3, -1), 60);
        due(x.route(0, 3, 0), 2);
        x.traffic(7, 1);
        // 491 and 551: 131 minutes from START
        due(x.route(0, 3, -2), 551);
        x.van(0, 1, hours(130, 420));
        due(x.route(1, 3, -2), -4);
        x.van(0, 1, hours(900, 501));
        due(x.route(2, 1, -2), -4);
        due(x.route(2, 1, 9), -4);
        lastMinute();
        tieByLastArrival();
        fiveCourts();
    }

    /** The last minute is open, at the PLACE and at the COURT. */
    private static void lastMinute() {
        x = new CourtVans();
        x.place(0, 5, 1, hours(0, 420));
        x.place(1, 1, 1, hours(0, 480));
        x.person(0, 0, 1, heardFor(1, 480));
        x.van(0, 1, hours(60, 420));
        x.van(0, 1, hours(60, 421));
        due(x.route(0, 1, -1), 0);
        due(x.route(1, 1, -1), -4);
        x.road(0, 1, 59);
        due(x.route(1, 1, -1), -4);
        x.road(0, 1, 61);
        due(x.route(0, 1, -1), -4);
    }

    private static void tieByLastArrival() {
        x = new CourtVans();
        town();
        x.person(0, 0, 1, heardFor(1, 1400));
        x.person(0, 0, 2, heardFor(1, 1400));
        x.van(0, 2, hours(900, 0));
        due(x.route(0, 3, 0), 1);
        x.road(0, 2, 59);
        due(x.route(0, 3, 0), 2);
        due(x.route(0, 3, -2), 119);
    }

    private static void fiveCourts() {
        x = new CourtVans();
        x.place(0, 5, 1, hours(0, 1439));
        for (int c = 1; c <= 5; c++) {
            x.place(1, 1, 1, hours(0, 1439));
            x.person(0, 0, c, heardFor(1, 1400));
        }
        x.van(0, 6, hours(900, 0));
        due(x.route(0, 15, -2), 240);
        due(x.route(0, 31, -2), -4);
    }

    static void p16() {
        town();
        x.person(0, 0, 1, heardFor(10, 600));
        x.person(0, 0, 2, heardFor(10, 480));
        x.person(0, 0, 1, heardFor(10, 600));
        x.person(0, 0, 1, heardFor(10, 600));
        x.van(0, 1, hours(120, 420));
        due(x.arrival(0, 7, 0), 540);
        due(x.arrival(0, 7, 1), 480);
        due(x.arrival(0, 7, 2), 540);
        due(x.arrival(0, 7, 3), -1);
        due(x.arrival(0, 7, 4), -1);
        due(x.arrival(0, 7, -1), -1);
        due(x.arrival(0, 0, 0), -1);
        due(x.arrival(1, 7, 0), -1);
        due(x.arrival(0, 16, 4), -1);
        x.traffic(8, 1);
        due(x.arrival(0, 7, 0), -4);
        due(x.arrival(0, 7, 3), -1);
        due(x.arrival(0, 5, 0), 480);
    }

    static void p17() {
        men(3);
        x.person(0, 3, 1, heardFor(1, 0));
        due(x.riders(0), 7);
        due(x.riders(3), 8);
        x.wire(1, true);
        due(x.riders(0), 5);
        due(x.riders(1), -1);
        due(x.riders(4), -1);
        due(x.riders(-1), -1);
    }

    static void p18() {
        town();
        due(x.plan(0), 0);
        due(x.plan(1), -1);
        due(x.plan(4), -1);
        x.person(0, 0, 1, heardFor(10, 470));
        x.person(0, 0, 2, heardFor(10, 480));
        due(x.plan(0), -3);
        x.van(0, 2, hours(300, 420));
        // 2 then 1: 0 + 70; 1 then 2: 10 + 60
        due(x.plan(0), 70);
        x.van(0, 1, hours(300, 420));
        due(x.plan(0), 10);
        due(x.vanOf(0), 0);
        due(x.vanOf(1), 1);
        x.van(0, 1, hours(300, 400));
        due(x.plan(0), 0);
        due(x.vanOf(0), 2);
        due(x.vanOf(1), 0);
        x.bar(0, 1, true);
        due(x.plan(0), 0);
        planEdges();
    }

    private static void planEdges() {
        x = new CourtVans();
        men(8);
        x.van(0, 4, hours(300, 420));
        due(x.plan(0), -3);
        x.van(0, 3, hours(300, 420));
        due(x.plan(0), -3);
        x.van(0, 1, hours(300, 600));
        due(x.plan(0), 60);
        // the last one of eight is the latest, as he is in the latest VAN
        due(x.vanOf(7), 2);
        due(x.vanOf(3), 0);
        due(x.vanOf(4), 1);
        x.bar(0, 1, true);
        due(x.plan(0), 60);
        due(x.vanOf(1), 1);
        x.person(0, 0, 1, heardFor(10, 600));
        due(x.plan(0), -2);
        x.wire(3, true);
        due(x.plan(0), 60);
        x = new CourtVans();
        men(9);
        due(x.plan(0), -2);
        due(x.plan(3), 0);
    }

    static void p19() {
        men(2);
        x.van(3, 2, hours(300, 420));
        due(x.vanOf(0), -3);
        x.van(0, 1, hours(300, 420));
        due(x.vanOf(0), -3);
        x.van(0, 1, hours(300, 420));
        due(x.vanOf(0), 1);
        due(x.vanOf(1), 2);
        x.wire(0, true);
        due(x.vanOf(0), -4);
        due(x.vanOf(1), 1);
        due(x.vanOf(2), -1);
        due(x.vanOf(-1), -1);
        for (int i = 2; i < 10; i++) {
            x.person(0, 0, 1, heardFor(10, 600));
        }
        due(x.vanOf(1), -2);
        due(x.vanOf(0), -4);
    }

    static void p20() {
        men(3);
        due(x.less(0), 7);
        due(x.less(3), 0);
        due(x.less(1), -1);
        due(x.less(9), -1);
        x.van(0, 2, hours(300, 420));
        due(x.less(0), 1);
        x.bar(1, 2, true);
        due(x.less(0), 2);
        x.van(0, 1, hours(300, 420));
        due(x.less(0), 0);
        x.bar(0, 1, true);
        x.bar(0, 2, true);
        due(x.less(0), 1);
        for (int i = 3; i < 8; i++) {
            x.person(0, 0, 1, heardFor(10, 600));
        }
        // three of eight can ride, of whom 0 can't be with 1 or 2: the greatest ones ride
        due(x.less(0), 31);
        x.person(0, 0, 1, heardFor(10, 600));
        due(x.less(0), -2);
        x = new CourtVans();
        men(1);
        x.place(1, 1, 1, hours(0, 100));
        x.person(0, 0, 4, heardFor(10, 600));
        x.van(0, 2, hours(300, 420));
        due(x.less(0), 2);
    }

    static void p21() {
        men(2);
        due(x.bound(0), -3);
        due(x.bound(3), 0);
        x.van(0, 1, hours(300, 600));
        due(x.bound(0), 120);
        x.van(0, 1, hours(300, 550));
        due(x.bound(0), 20);
        due(x.plan(0), 70);
        x.van(3, 1, hours(300, 0));
        due(x.bound(0), 20);
        due(x.bound(1), -1);
        due(x.bound(4), -1);
        x.wire(0, true);
        due(x.bound(0), 10);
        x.wire(0, false);
        // BOUND asks for no PLAN: ten are not too many, nor are foes
        for (int i = 2; i < 10; i++) {
            x.person(0, 0, 1, heardFor(10, 600));
        }
        due(x.bound(0), 100);
        x.place(1, 1, 1, hours(0, 10));
        x.person(0, 0, 4, heardFor(10, 600));
        due(x.bound(0), -3);
    }

    static void p22() {
        men(2);
        due(x.prove(0), -3);
        due(x.prove(1), -1);
        x.van(0, 1, hours(300, 420));
        x.van(0, 1, hours(300, 430));
        due(x.prove(0), 2);
        due(x.many(7), 2);
        due(x.row(0, 2), 480);
        due(x.row(1, 2), 490);
        due(x.prove(3), 0);
        due(x.many(7), 0);
        due(x.prove(0), 2);
        x.bar(0, 1, true);
        x.person(0, 0, 1, heardFor(10, 600));
        due(x.prove(0), -3);
        due(x.many(7), 2);
        for (int i = 3; i < 9; i++) {
            x.person(0, 0, 1, heardFor(10, 600));
        }
        due(x.prove(0), -2);
        due(x.many(7), 2);
    }

    static void p23() {
        town();
        x.person(0, 3, 1, heardFor(10, 600));
        x.person(0, 0, 1, heardFor(10, 600));
        x.van(3, 1, hours(300, 420));
        x.van(0, 1, hours(300, 420));
        x.prove(0);
        due(x.row(0, 0), 1);
        due(x.row(0, 1), 1);
        due(x.row(0, 2), 480);
        due(x.row(0, 3), -9);
        due(x.row(0, -1), -9);
        due(x.row(1, 0), -9);
        due(x.row(-1, 0), -9);
    }

    static void p24() {
        men(1);
        x.van(0, 1, hours(300, 420));
        due(x.alterRow(0, 0, 1), -9);
        x.prove(0);
        due(x.alterRow(0, 2, Integer.MIN_VALUE), 480);
        due(x.row(0, 2), Integer.MIN_VALUE);
        due(x.alterRow(0, 2, 5), Integer.MIN_VALUE);
        due(x.alterRow(0, 3, 5), -9);
        due(x.alterRow(0, -1, 5), -9);
        due(x.alterRow(1, 0, 5), -9);
        due(x.alterRow(-1, 0, 5), -9);
        due(x.row(0, 0), 0);
    }

    static void p25() {
        men(2);
        x.van(0, 2, hours(300, 420));
        due(x.drop(), -3);
        x.prove(0);
        due(x.drop(), 1);
        due(x.row(1, 0), -9);
        due(x.row(0, 0), 0);
        due(x.drop(), 0);
        due(x.drop(), -3);
    }

    static void p26() {
        men(3);
        x.van(0, 2, hours(300, 550));
        x.van(0, 2, hours(300, 540));
        x.van(3, 2, hours(300, 540));
        due(x.judge(0), -100);
        due(x.judge(1), -1);
        due(x.judge(4), -1);
        due(x.judge(3), 0);
        // 0, 1 in VAN 1 and 2 in VAN 0 costs 10; so does any other one of them in VAN 0
        due(x.plan(0), 10);
        x.prove(0);
        due(x.judge(0), 10);
        due(x.judge(3), -200);
        due(x.row(0, 1), 0);
        due(x.row(2, 1), 1);
        // another right one, which isn't the PLAN
        x.alterRow(0, 1, 1);
        x.alterRow(0, 2, 600);
        due(x.judge(0), -100);
        x.alterRow(2, 1, 0);
        x.alterRow(2, 2, 610);
        due(x.judge(0), 10);
        x.alterRow(2, 2, 611);
        due(x.judge(0), -102);
        x.alterRow(2, 2, 610);
        x.alterRow(2, 1, 2);
        due(x.judge(0), -102);
        x.alterRow(2, 1, 3);
        due(x.judge(0), -102);
        x.alterRow(2, 1, -1);
        due(x.judge(0), -102);
        x.alterRow(2, 1, 0);
        x.alterRow(2, 0, 1);
        due(x.judge(0), -102);
        x.alterRow(2, 0, 2);
        due(x.judge(0), 10);
        x.bar(1, 0, true);
        due(x.judge(0), -100);
        x.bar(1, 0, false);
        x.drop();
        due(x.judge(0), -102);
        x.wire(2, true);
        due(x.judge(0), 0);
        x.wire(1, true);
        due(x.judge(0), -200);
        // what is wrong of a RIDER comes ahead of too many ROWS
        x.alterRow(0, 2, 1);
        due(x.judge(0), -100);
        x.wire(0, true);
        due(x.judge(0), -200);
    }

    static void p27() {
        men(4);
        due(x.held(1, 0, -1), 0);
        due(x.held(1, 15, -1), 2);
        due(x.held(1, 15, 0), 0);
        due(x.held(1, 15, 1), 0);
        due(x.held(1, 15, 2), 1);
        due(x.held(1, 5, 1), -3);
        due(x.held(1, 5, 2), 0);
        x.bar(0, 1, true);
        // 0, 2 and 1, 3
        due(x.held(1, 15, 1), 1);
        due(x.held(1, 15, 2), 0);
        due(x.held(1, 15, 3), 1);
        due(x.held(1, 15, 4), -1);
        due(x.held(1, 15, -2), -1);
        due(x.held(1, 16, -1), -1);
        due(x.held(1, -1, -1), -1);
        due(x.held(0, 15, -1), -1);
        due(x.held(4, 15, -1), -1);
        x.apart(0, 0, true);
        due(x.held(1, 15, -1), -4);
        due(x.held(1, 7, -1), 3);
        due(x.held(1, 7, 3), -3);
        due(x.held(2, 15, -1), 4);
        x.apart(0, 0, false);
        for (int i = 4; i < 10; i++) {
            x.person(0, 0, 1, heardFor(10, 600));
        }
        due(x.held(1, 511, -1), -2);
        due(x.held(1, 511, 9), -2);
        due(x.held(1, 255, -1), -4);
        due(x.held(1, 255, 9), -4);
        due(x.held(2, 255, -1), 2);
        x.place(1, 0, 1, hours(0, 1439));
        due(x.held(4, 0, -1), 0);
        due(x.held(4, 0, 1), -3);
        due(x.held(4, 1, -1), -4);
    }

    static void p28() {
        men(1);
        due(x.enter(1, 0, 0, 0), -1);
        due(x.enter(-1, 0, 0, 0), -1);
        due(x.enter(0, 4, 0, 0), -1);
        due(x.enter(0, -1, 0, 0), -1);
        due(x.enter(0, 0, 1440, 0), -1);
        due(x.enter(0, 0, -1, 0), -1);
        due(x.enter(0, 0, 0, 4), -1);
        due(x.enter(0, 0, 0, -1), -1);
        for (int i = 0; i < 40; i++) {
            due(x.enter(0, i % 4, i * 36, i % 4), i);
        }
        due(x.enter(0, 0, 0, 0), -2);
        due(x.enter(0, 0, 0, 4), -1);
        due(x.many(5), 40);
    }

    static void p29() {
        men(1);
        x.enter(0, 1, 100, 2);
        x.minutes(10);
        x.enter(0, 2, 100, 2);
        x.enter(0, 3, 50, 2);
        due(x.at(0, 49, 1439), 0);
        due(x.at(0, 50, 1439), 3);
        due(x.at(0, 50, 9), 0);
        due(x.at(0, 99, 10), 3);
        due(x.at(0, 100, 10), 2);
        due(x.at(0, 100, 9), 1);
        due(x.at(0, 1439, 0), 1);
        due(x.at(1, 0, 0), -1);
        due(x.at(-1, 0, 0), -1);
        due(x.at(0, 1440, 0), -1);
        due(x.at(0, -1, 0), -1);
        due(x.at(0, 0, 1440), -1);
        due(x.at(0, 0, -1), -1);
    }

    static void p30() {
        men(3);
        due(x.counted(0, 0, 0, false), 3);
        due(x.counted(0, 0, 0, true), 0);
        x.enter(0, 1, 100, 2);
        x.enter(1, 1, 100, 1);
        x.enter(2, 1, 101, 0);
        due(x.counted(1, 99, 0, false), 0);
        due(x.counted(1, 100, 0, false), 2);
        due(x.counted(1, 100, 0, true), 1);
        due(x.counted(1, 101, 0, false), 3);
        due(x.counted(1, 101, 0, true), 2);
        due(x.counted(0, 100, 0, false), 1);
        x.minutes(5);
        x.enter(1, 1, 100, 3);
        due(x.counted(1, 101, 5, true), 1);
        due(x.counted(1, 101, 4, true), 2);
        due(x.counted(4, 0, 0, false), -1);
        due(x.counted(-1, 0, 0, false), -1);
        due(x.counted(0, 1440, 0, false), -1);
        due(x.counted(0, 0, 1440, false), -1);
        due(x.counted(0, -1, 0, false), -1);
        due(x.counted(0, 0, -1, false), -1);
    }

    static void p31() {
        men(1);
        due(x.came(0, 0), -3);
        x.enter(0, 2, 10, 3);
        due(x.came(0, 0), -3);
        x.enter(0, 1, 700, 0);
        due(x.came(0, 0), 700);
        x.minutes(1);
        x.enter(0, 1, 600, 0);
        due(x.came(0, 0), 700);
        due(x.came(0, 1), 600);
        due(x.came(1, 0), -1);
        due(x.came(-1, 0), -1);
        due(x.came(0, 1440), -1);
        due(x.came(0, -1), -1);
    }

    static void p32() {
        x.place(0, 5, 1, hours(0, 1439));
        x.place(1, 1, 1, hours(0, 600));
        x.person(0, 0, 1, heardFor(20, 700));
        x.person(0, 0, 1, heardFor(30, 500));
        x.person(0, 0, 1, heardFor(40, 500));
        x.person(0, 0, 1, heardFor(1, 400));
        x.person(0, 0, 1, heardFor(1, 1400));
        due(x.heard(0, 0), -3);
        x.enter(0, 1, 530, 0);
        due(x.heard(0, 0), 540);
        x.enter(1, 1, 550, 0);
        due(x.heard(1, 0), 560);
        x.enter(2, 1, 540, 0);
        // now 2 is there at 540 and DUE ahead of 0: 540 to 580; 1 is DUE ahead of 0: 580 to 610
        due(x.heard(2, 0), 540);
        due(x.heard(1, 0), 580);
        due(x.heard(0, 0), -3);
        x.minutes(1);
        x.enter(3, 1, 580, 0);
        due(x.heard(3, 0), -3);
        due(x.heard(3, 1), 580);
        due(x.heard(1, 1), 581);
        due(x.heard(5, 0), -1);
        due(x.heard(-1, 0), -1);
        due(x.heard(0, 1440), -1);
        due(x.heard(0, -1), -1);
        hearingEdges();
    }

    private static void hearingEdges() {
        x = new CourtVans();
        x.place(0, 5, 1, hours(0, 1439));
        x.place(1, 1, 1, hours(570, 600));
        x.person(0, 0, 1, heardFor(30, 700));
        x.person(0, 0, 1, heardFor(30, 700));
        x.person(0, 0, 1, heardFor(30, 600));
        x.enter(1, 1, 570, 0);
        x.enter(0, 1, 570, 0);
        x.enter(2, 1, 571, 0);
        // of those DUE alike the least; 2 comes too late for 570, and 600 is the last minute
        due(x.heard(0, 0), 570);
        due(x.heard(2, 0), 600);
        due(x.heard(1, 0), -3);
        x = new CourtVans();
        x.place(0, 5, 1, hours(0, 1439));
        x.place(1, 1, 1, hours(0, 539));
        x.person(0, 0, 1, heardFor(30, 500));
        x.enter(0, 1, 500, 0);
        due(x.heard(0, 0), -3);
        x = new CourtVans();
        men(2);
        x.person(0, 0, 2, heardFor(10, 300));
        x.enter(2, 2, 540, 0);
        x.enter(2, 1, 540, 0);
        x.enter(0, 1, 700, 0);
        due(x.heard(0, 0), 700);
    }

    static void p33() {
        due(x.feed(0, 0), -1);
        due(x.feed(0, 9), -1);
        due(x.feed(0, -1), -1);
        due(x.feed(0x2020202020202020L, 1), 1);
        due(x.many(9), 1);
        for (int i = 1; i < 25; i++) {
            due(x.feed(0x2020202020202020L, 8), 1 + 8 * i);
        }
        due(x.feed(0x2020202020202020L, 8), -2);
        due(x.many(9), 193);
        due(x.feed(0x2020202020202020L, 7), 200);
        due(x.feed(0, 1), -2);
        due(x.feed(0, 9), -1);
        due(x.read(), 0);
        // "free 1 ;": the lowest byte first, the highest one too; what is above n bytes isn't taken
        due(x.feed(0x3B20312065657266L, 8), 8);
        due(x.read(), 1);
        due(x.feed(0x3B20312065657266L, 7), 7);
        due(x.read(), -107);
        due(x.feed(0xFFFFFFFFFFFFFF20L, 1), 1);
        due(x.read(), 0);
        due(x.feed(0xE900000000000020L, 8), 8);
        due(x.read(), -101);
    }

    static void p34() {
        due(x.read(), 0);
        due(text("free 1;most 2;"), 2);
        due(x.many(9), 0);
        due(text("free 1"), -106);
        due(x.many(9), 0);
        due(x.many(8), 2);
        due(x.line(1, 2), 2);
        due(text("   "), 0);
        due(x.many(8), 0);
        due(text("  free   007  ;  "), 1);
        due(x.line(0, 2), 7);
        due(text("by van or van or none over 0 pays 999 each 1;"), 1);
        due(text("by van over1pays2each3;"), 1);
        due(x.line(0, 4), 3);
        due(text("free"), -104);
        due(text("free "), -105);
        due(text("free ;"), -105);
        due(text("free 1000;"), -105);
        due(text("free 0000;"), -105);
        due(text("free 1 2;"), -107);
        due(text("free 1 ;;"), -108);
        due(text(";"), -100);
        due(text("freed 1;"), -100);
        due(text("fre 1;"), -100);
        due(text("Free 1;"), -100);
        due(text("free1;"), 1);
        due(text("free 1\n;"), -106);
        due(text("free 1;\u00e9"), -107);
        due(text("free -1;"), -105);
        due(text("by"), -102);
        due(text("by over"), -103);
        due(text("by van"), -106);
        due(text("by van jail"), -107);
        due(text("by van or"), -109);
        due(text("by van or or"), -110);
        due(text("by van over"), -111);
        due(text("by van over pays"), -112);
        due(text("by van over 1"), -113);
        due(text("by van over 1 each"), -114);
        due(text("by van over 1 pays"), -118);
        due(text("by van over 1 pays x"), -119);
        due(text("by van over 1 pays 1;"), -120);
        due(text("by van over 1 pays 1 each"), -125);
        due(text("by van over 1 pays 1 each 0;"), -126);
        due(text("by van over 1 pays 1 each 000;"), -126);
        due(text("by van over 1 pays 1 each 1"), -127);
        due(text("by van over 1 pays 1 each 1 or"), -128);
        due(text("xree 1;"), -100);
        due(text("zy van over 1 pays 1 each 1;"), -100);
        due(text("by vanz over 1 pays 1 each 1;"), -103);
        due(text("by van oz"), -107);
        due(text("by van oa jail"), -107);
        due(text("free 1/"), -106);
        due(text("free 1:"), -106);
        due(text("free 1`"), -106);
        due(text("free 1{"), -106);
        due(text("free 9;free 0;most 999;"), 3);
        due(text("by vanjail over 1 pays 1 each 1;"), -103);
        due(text("most 1;most 1;most 1;most 1;most 1;most 1;most 1;most 1; most 1;"), -157);
        due(text("most 1;most 1;most 1;most 1;most 1;most 1;most 1;most 1; x"), -157);
        due(text("most 1;most 1;most 1;most 1;most 1;most 1;most 1;most 1; "), 8);
    }

    static void p35() {
        due(text("by van or none over 1 pays 20 each 300;free 4;most 5;by jail or road or court over 0 pays 0 each 1;"), 4);
        int[][] want = {{0, 17, 1, 20, 300}, {1, 0, 4, -9, -9}, {2, 0, 5, -9, -9}, {0, 14, 0, 0, 1}};
        for (int i = 0; i < 4; i++) {
            for (int what = 0; what < 5; what++) {
                due(x.line(i, what), want[i][what]);
            }
            due(x.line(i, 5), -9);
            due(x.line(i, -1), -9);
        }
        due(x.line(4, 0), -9);
        due(x.line(-1, 0), -9);
    }

    /** A man DUE at 600 who CAME at 650, and a VAN with DELAYS: van 5, road 10, van 20, then one that is too late. */
    private static void late() {
        men(2);
        x.van(0, 1, hours(300, 420));
        x.van(0, 1, hours(300, 420));
        x.delay(0, 650, 0, 5);
        x.delay(0, 100, 2, 10);
        x.delay(1, 100, 1, 240);
        x.delay(0, 300, 0, 20);
        x.delay(0, 651, 3, 30);
        x.minutes(2);
        x.enter(0, 1, 650, 2);
    }

    private static void parts(int van, int a, int b, int c, int d, int e) {
        int[] want = {a, b, c, d, e};
        for (int cause = 0; cause < 5; cause++) {
            due(x.part(0, van, cause, 2), want[cause]);
        }
    }

    static void p36() {
        late();
        parts(0, 25, 0, 10, 0, 15);
        parts(1, 0, 50, 0, 0, 0);
        due(x.part(0, 0, 0, 1), 0);
        due(x.part(1, 0, 0, 2), 0);
        text("free 10;");
        parts(0, 25, 0, 10, 0, 5);
        text("free 3;free 18;");
        parts(0, 22, 0, 10, 0, 0);
        text("free 22;");
        parts(0, 20, 0, 8, 0, 0);
        text("free 35;");
        parts(0, 15, 0, 0, 0, 0);
        text("free 999;");
        parts(0, 0, 0, 0, 0, 0);
        text("");
        // an earlier ENTRY: less LATE, told by the latest DELAY; the first one is from 650 on
        x.enter(0, 1, 625, 2);
        parts(0, 20, 0, 5, 0, 0);
        x.enter(0, 1, 600, 2);
        parts(0, 0, 0, 0, 0, 0);
        due(x.part(2, 0, 0, 2), -1);
        due(x.part(0, 2, 0, 2), -1);
        due(x.part(0, 0, 5, 2), -1);
        due(x.part(0, 0, -1, 2), -1);
        due(x.part(0, 0, 0, 1440), -1);
        due(x.part(-1, 0, 0, 0), -1);
        due(x.part(0, -1, 0, 0), -1);
        due(x.part(0, 0, 0, -1), -1);
    }

    static void p37() {
        late();
        // van 25, road 10, none 15
        due(x.fine(0, 0, 2), 0);
        text("by van over 5 pays 7 each 3;");
        due(x.fine(0, 0, 2), 49);
        due(x.fine(0, 1, 2), 0);
        due(x.fine(0, 0, 1), 0);
        due(x.fine(1, 0, 2), 0);
        text("by van over 25 pays 7 each 3;");
        due(x.fine(0, 0, 2), 0);
        text("by van over 24 pays 7 each 3;");
        due(x.fine(0, 0, 2), 7);
        text("by van or road over 5 pays 1 each 5;by none or van over 0 pays 2 each 1;");
        due(x.fine(0, 0, 2), 4 + 1 + 30);
        text("most 9;by van or road over 5 pays 1 each 5;most 34;");
        due(x.fine(0, 0, 2), 5);
        text("most 9;by van or road over 5 pays 1 each 5;most 4;");
        due(x.fine(0, 0, 2), 4);
        text("by van over 0 pays 1 each 1;most 0;");
        due(x.fine(0, 0, 2), 0);
        text("free 20;by none or van over 0 pays 1 each 1;");
        due(x.fine(0, 0, 2), 20);
        due(x.fine(2, 0, 2), -1);
        due(x.fine(0, 2, 2), -1);
        due(x.fine(0, 0, 1440), -1);
        due(x.fine(-1, 0, 2), -1);
        due(x.fine(0, -1, 2), -1);
        due(x.fine(0, 0, -1), -1);
    }

    static void p38() {
        x.place(0, 2, 1, hours(0, 700));
        x.place(1, 2, 1, hours(0, 1439));
        x.place(2, 1, 1, hours(661, 1439));
        x.place(2, 9, 1, hours(0, 1439));
        for (int i = 0; i < 7; i++) {
            x.person(0, 0, 1, heardFor(1, 0));
        }
        for (int i = 0; i < 7; i++) {
            x.enter(i, 1, 500, 2);
        }
        x.road(1, 3, 80);
        due(x.night(1, 0, 600, -1), 0);
        due(x.night(1, 0, 600, -2), 0);
        due(x.night(1, 3, 600, -1), 0);
        due(x.night(1, 3, 600, -2), 120);
        // 2 isn't open at 660, it is at 661
        due(x.night(1, 7, 600, -1), 1);
        due(x.night(1, 7, 600, -2), 200);
        due(x.night(1, 7, 600, 0), 0);
        due(x.night(1, 7, 600, 2), 3);
        due(x.night(1, 15, 601, -2), 260);
        due(x.night(1, 15, 601, -1), 2);
        due(x.night(1, 15, 601, 2), 2);
        due(x.night(1, 15, 601, 3), 3);
        due(x.night(1, 15, 601, 4), -3);
        // 0 is open at 700, no more at 701; then 0 goes to 2, the lesser one
        due(x.night(1, 1, 640, 0), 0);
        due(x.night(1, 1, 641, 0), 2);
        due(x.night(1, 1, 641, -1), 1);
        // one is at 3, and eight have room
        x.enter(6, 3, 600, 2);
        due(x.night(1, 63, 700, -2), 60 + 5 * 80);
        due(x.night(1, 64, 700, 6), 2);
        due(x.night(1, 127, 700, -1), -2);
        due(x.night(1, 127, 700, 0), -2);
        due(x.night(1, 1, 1380, -1), -4);
        due(x.night(1, 1, 1380, 1), -4);
        due(x.night(1, 1, 1379, -2), 60);
        due(x.night(0, 1, 600, -1), -1);
        due(x.night(4, 1, 600, -1), -1);
        due(x.night(1, 128, 600, -1), -1);
        due(x.night(1, -1, 600, -1), -1);
        due(x.night(1, 1, 1440, -1), -1);
        due(x.night(1, 1, -1, -1), -1);
        due(x.night(1, 1, 600, -3), -1);
        due(x.night(1, 1, 600, 7), -1);
        nightRooms();
    }

    /** Those who are AT a PLACE take its room, but for those who leave; as KNOWN NOW. */
    private static void nightRooms() {
        x = new CourtVans();
        x.place(0, 1, 1, hours(0, 1439));
        x.place(1, 2, 1, hours(0, 1439));
        x.place(2, 1, 1, hours(0, 1439));
        x.person(0, 0, 1, heardFor(1, 0));
        x.person(0, 0, 1, heardFor(1, 0));
        due(x.night(1, 1, 600, 0), 2);
        due(x.night(1, 3, 600, -1), 1);
        due(x.night(1, 3, 600, 0), 0);
        due(x.night(1, 3, 600, 1), 2);
        x.enter(1, 1, 601, 0);
        due(x.night(1, 1, 600, 0), 2);
        due(x.night(1, 1, 601, 0), 0);
        x.enter(1, 2, 601, 0);
        due(x.night(1, 1, 601, 0), 0);
        x.enter(1, 0, 602, 0);
        due(x.night(1, 1, 602, 0), 2);
    }

    static void p39() {
        men(2);
        due(x.thing(0, 0), 0);
        due(x.thing(1, -1), 1);
        due(x.thing(0, 1), 2);
        due(x.thing(2, 0), -1);
        due(x.thing(-1, 0), -1);
        due(x.thing(0, 4), -1);
        due(x.thing(0, -2), -1);
        for (int i = 3; i < 16; i++) {
            due(x.thing(0, 3), i);
        }
        due(x.thing(0, 3), -2);
        due(x.thing(0, 4), -1);
        due(x.many(6), 16);
    }

    static void p40() {
        men(1);
        x.thing(0, 3);
        due(x.carry(0, 0), 3);
        due(x.carry(0, -1), 0);
        due(x.carry(0, 1), -3);
        due(x.carry(0, 4), -1);
        due(x.carry(0, -2), -1);
        due(x.carry(1, 0), -1);
        due(x.carry(-1, 0), -1);
        due(x.carry(0, 1), 1);
    }

    static void p41() {
        men(2);
        x.thing(0, 0);
        x.thing(0, -1);
        x.thing(1, 3);
        x.thing(0, 3);
        x.thing(0, 1);
        due(x.lacks(0, 0), 24);
        due(x.lacks(0, 3), 17);
        due(x.lacks(0, 2), 25);
        due(x.lacks(1, 3), 0);
        due(x.lacks(2, 0), -1);
        due(x.lacks(-1, 0), -1);
        due(x.lacks(0, 4), -1);
        due(x.lacks(0, -1), -1);
    }

    static void p42() {
        men(2);
        due(x.fetch(0, 0), 0);
        x.thing(0, 1);
        due(x.fetch(0, 0), 120);
        due(x.fetch(0, 1), 0);
        due(x.fetch(1, 0), 0);
        x.thing(0, 2);
        x.thing(0, 2);
        x.thing(0, 3);
        x.road(0, 1, 300);
        x.road(0, 2, 10);
        x.road(0, 3, 10);
        x.road(2, 3, 300);
        // 0 2 1 3 0
        due(x.fetch(0, 0), 140);
        x.traffic(0, 200);
        due(x.fetch(0, 0), 140);
        // 1 2 3 1: by direct ROADS, though by 0 it would be shorter
        due(x.fetch(0, 1), 60 + 300 + 60);
        due(x.fetch(2, 0), -1);
        due(x.fetch(-1, 0), -1);
        due(x.fetch(0, 4), -1);
        due(x.fetch(0, -1), -1);
    }

    static void p43() {
        due(x.sheet(4, 0, 1), -1);
        due(x.sheet(-1, 0, 1), -1);
        due(x.sheet(0, 4, 1), -1);
        due(x.sheet(0, -2, 1), -1);
        due(x.sheet(0, 0, 41), -1);
        due(x.sheet(0, 0, -1), -14);
        due(x.sheet(0, 0, Integer.MIN_VALUE), -14);
        due(x.sheet(0, 4, -1), -1);
        due(x.item(0, 0, 0), -11);
        due(x.sheet(0, 0, 0), 1);
        due(x.item(0, 0, 0), -12);
        due(x.sheet(0, 2, 40), 1);
        due(x.put(0, 39, 5), 1);
        due(x.sheet(0, 2, -1), -14);
        due(x.item(0, 2, 39), 5);
        due(x.sheet(0, 2, 40), 1);
        due(x.item(0, 2, 39), 0);
        due(x.sheet(0, -1, 99), 1);
        due(x.item(0, 2, 0), -11);
        due(x.sheet(3, 3, 1), 1);
    }

    static void p44() {
        due(x.put(0, 0, 1), -11);
        due(x.put(4, 0, 1), -1);
        due(x.put(-1, 0, 1), -1);
        int v = 0x12348281;
        int[] want = {(byte) 0x81, (short) 0x8281, v, v};
        for (int sort = 0; sort < 4; sort++) {
            x.sheet(sort, sort, 2);
            due(x.put(sort, 1, v), 1);
            due(x.item(sort, sort, 1), want[sort]);
            due(x.item(sort, sort, 0), 0);
            due(x.put(sort, 2, 1), -12);
            due(x.put(sort, -1, 1), -12);
        }
    }

    static void p45() {
        x.sheet(1, 1, 3);
        x.put(1, 2, -14);
        due(x.item(1, 1, 2), -14);
        due(x.item(1, 0, 2), -13);
        due(x.item(1, 2, 2), -13);
        due(x.item(1, 2, 9), -13);
        due(x.item(1, 1, 3), -12);
        due(x.item(1, 1, -1), -12);
        due(x.item(1, 1, Integer.MAX_VALUE), -12);
        due(x.item(0, 1, 3), -11);
        due(x.item(1, 4, 0), -1);
        due(x.item(1, -1, 0), -1);
        due(x.item(4, 0, 0), -1);
        due(x.item(-1, 0, 0), -1);
    }

    static void p46() {
        men(1);
        due(x.comes(0, 0), -11);
        due(x.comes(4, 0), -1);
        due(x.comes(-1, 0), -1);
        x.sheet(0, 2, 9);
        due(x.comes(0, 0), -13);
        due(x.comes(0, 90), -13);
        x.sheet(0, 1, 6);
        int[] row = {7, 0, 1, 600, 2, 0};
        for (int i = 0; i < 6; i++) {
            x.put(0, i, row[i]);
        }
        due(x.comes(0, 0), -1);
        due(x.comes(0, 1), 0);
        due(x.came(0, 0), 600);
        due(x.counted(1, 600, 0, true), 0);
        due(x.comes(0, 3), -12);
        due(x.comes(0, -1), -12);
        due(x.comes(0, 6), -12);
        due(x.comes(0, Integer.MAX_VALUE), -12);
        due(x.comes(0, Integer.MAX_VALUE - 2), -12);
        due(x.comes(0, Integer.MIN_VALUE), -12);
        due(x.many(5), 1);
        for (int i = 1; i < 40; i++) {
            x.comes(0, 1);
        }
        due(x.comes(0, 1), -2);
    }

    static void p47() {
        men(2);
        x.van(0, 1, hours(60, 0));
        x.thing(0, 0);
        due(x.shelf(4, 4, 0), -1);
        due(x.shelf(-1, 4, 0), -1);
        due(x.shelf(0, 5, 0), -1);
        due(x.shelf(0, -1, 0), -1);
        due(x.shelf(0, 0, 2), -1);
        due(x.shelf(0, 0, -1), -1);
        due(x.shelf(0, 1, 1), -1);
        due(x.shelf(0, 2, 1), -1);
        due(x.shelf(0, 3, 4), -1);
        due(x.shelf(0, 3, -1), -1);
        due(x.taken(0, 0), -11);
        due(x.shelf(0, 0, 1), 1);
        due(x.taken(0, 1), 1);
        due(x.shelf(0, 1, 1), -1);
        due(x.taken(0, 1), 1);
        due(x.shelf(0, 1, 0), 1);
        due(x.taken(0, 4), 0);
        due(x.shelf(0, 2, 0), 1);
        due(x.taken(0, 5), 0);
        due(x.shelf(0, 3, 0), 1);
        due(x.taken(0, 10), -11);
        x.sheet(0, 0, 7);
        due(x.shelf(0, 3, 0), 1);
        due(x.taken(0, 10), 7);
        due(x.shelf(0, 4, 99), 1);
        due(x.taken(0, 10), -11);
        due(x.shelf(3, 0, 0), 1);
        due(x.taken(3, 0), 0);
    }

    static void p48() {
        town();
        for (int g = 0; g < 4; g++) {
            x.person(g, 0, 1, heardFor(1, 0));
        }
        x.van(0, 1, hours(60, 0));
        x.thing(0, 0);
        x.thing(0, 0);
        int[][] on = {{0, 0, 1}, {0, 1, 2}, {0, 2, 3}, {0, 3, 1}, {1, 0, 4}, {2, 0, 5}, {2, 1, 6}};
        int[] above = {-1, 0, 1, 1, 0, 0, 5};
        for (int[] o : on) {
            x.shelf(1, o[0], o[1]);
            for (int as = 0; as <= 6; as++) {
                boolean is = as == 0 || as == o[2] || as == above[o[2]];
                due(x.taken(1, as), is ? o[1] : -13);
            }
            for (int as = 10; as <= 13; as++) {
                due(x.taken(1, as), -13);
            }
        }
        for (int sort = 0; sort < 4; sort++) {
            x.sheet(2, sort, 5 + sort);
            x.shelf(1, 3, 2);
            for (int as = 10; as <= 13; as++) {
                due(x.taken(1, as), as - 10 == sort ? 5 + sort : -13);
            }
            due(x.taken(1, 0), -13);
            due(x.taken(1, 3), -13);
        }
        due(x.taken(1, 7), -1);
        due(x.taken(1, 9), -1);
        due(x.taken(1, 14), -1);
        due(x.taken(1, -1), -1);
        due(x.taken(4, 0), -1);
        due(x.taken(-1, 0), -1);
        due(x.taken(0, 0), -11);
        due(x.taken(0, 13), -11);
        due(x.taken(0, 14), -1);
    }

    private static void trace(int... bodies) {
        due(x.many(10), bodies.length);
        for (int i = 0; i < bodies.length; i++) {
            due(x.trace(i), bodies[i]);
        }
        due(x.trace(bodies.length), -3);
    }

    static void p49() {
        town();
        for (int g = 0; g < 4; g++) {
            x.person(g, 0, 1, heardFor(1, g == 3 ? 3 : 100));
        }
        x.van(0, 6, hours(60, 0));
        for (int t = 0; t < 4; t++) {
            x.thing(t == 3 ? 3 : 0, 0);
        }
        x.shelf(0, 0, 0);
        // person 0, a is 100
        due(x.act(0, 0, 5), 15);
        trace(20, 10);
        due(x.act(0, 1, 5), -85);
        trace(11, 20, 10);
        due(x.act(0, 2, 250), -2);
        trace(12);
        due(x.act(0, 2, -250), 2);
        due(x.act(0, 3, 5), -85 ^ 6);
        trace(13, 11, 20, 10, 20, 10);
        due(x.act(0, 0, Integer.MAX_VALUE), 2147483645);
        // woman 1
        x.shelf(0, 0, 1);
        due(x.act(0, 1, 5), 7 * 3 - 100);
        trace(30, 11, 20, 10);
        due(x.act(0, 0, 5), 18);
        due(x.act(0, 3, 5), (7 * 3 - 100) ^ 9);
        trace(13, 30, 11, 20, 10, 20, 10);
        actsOfChildAndVan();
        actsOfThings();
        due(x.act(4, 0, 0), 0);
        trace();
        x.act(0, 0, 0);
        due(x.act(0, 4, 7), 0);
        trace();
        x.act(0, 0, 0);
        due(x.act(0, -1, 7), 0);
        trace();
        x.act(0, 0, 0);
        due(x.act(1, 0, 7), 0);
        trace();
        x.sheet(0, 0, 1);
        x.shelf(1, 3, 0);
        x.act(0, 0, 0);
        due(x.act(1, 0, 7), 0);
        trace();
        due(x.act(-1, 0, 7), 0);
    }

    private static void actsOfChildAndVan() {
        // child 2
        x.shelf(0, 0, 2);
        due(x.act(0, 0, 5), 20);
        trace(40, 20, 10);
        due(x.act(0, 3, 5), (-80 ^ 11) + (8 - 100));
        trace(41, 13, 11, 40, 20, 10, 40, 20, 10, 11, 40, 20, 10);
        // risk 3 is a person; n and a are the same
        x.shelf(0, 0, 3);
        due(x.act(0, 0, 1), 12);
        due(x.act(0, 2, 5), -15);
        trace(12);
        // van 0, a is 6
        x.shelf(0, 1, 0);
        due(x.act(0, 0, 5), 5);
        trace(10);
        due(x.act(0, 1, 5), -2);
        trace(50, 11, 10);
        due(x.act(0, 2, 13), -3);
        trace(51, 12);
        due(x.act(0, 3, 5), -2 ^ 2);
        trace(13, 50, 11, 10, 10);
    }

    private static void actsOfThings() {
        // property 0 of 0, property 2 of 0, paper 1 of 0, paper 3 of 3
        x.shelf(0, 2, 0);
        due(x.act(0, 2, 7), -15);
        x.shelf(0, 2, 2);
        due(x.act(0, 2, 7), 3);
        trace(12);
        due(x.act(0, 1, 7), 9);
        due(x.act(0, 3, 7), (9 ^ 4) - 2);
        trace(60, 13, 11, 10, 10);
        x.shelf(0, 2, 1);
        due(x.act(0, 0, 7), 8 ^ 5);
        trace(70, 10);
        due(x.act(0, 1, 7), 8 ^ 5);
        trace(11, 70, 10);
        due(x.act(0, 2, 7), -7);
        trace(71, 12);
        due(x.act(0, 2, Integer.MIN_VALUE), Integer.MIN_VALUE);
        due(x.act(0, 3, 7), (8 ^ 5 ^ 3 ^ 5) - 1);
        trace(60, 13, 11, 70, 10, 70, 10);
        x.shelf(0, 2, 3);
        due(x.act(0, 2, 7), -15);
        trace(71, 12);
    }

    static void p50() {
        men(1);
        due(x.trace(0), -3);
        x.shelf(0, 0, 0);
        x.act(0, 3, 1);
        due(x.trace(0), 13);
        due(x.trace(5), 10);
        due(x.trace(6), -3);
        due(x.trace(-1), -3);
        due(x.trace(29), -3);
        due(x.trace(30), -3);
        x.act(0, 0, 1);
        due(x.trace(1), 10);
        due(x.trace(2), -3);
    }

    static void p51() {
        men(2);
        x.minutes(7);
        x.van(0, 2, hours(300, 420));
        x.delay(0, 1, 1, 1);
        x.delay(0, 1, 1, 1);
        x.enter(0, 0, 0, 0);
        x.enter(0, 0, 0, 0);
        x.enter(0, 0, 0, 0);
        x.thing(0, 0);
        x.prove(0);
        text("free 1;free 1;free 1;");
        x.feed(0, 5);
        x.shelf(0, 0, 0);
        x.act(0, 1, 1);
        x.wire(1, true);
        int[] want = {7, 4, 2, 1, 2, 3, 1, 2, 3, 5, 3, 1};
        for (int what = 0; what < 12; what++) {
            due(x.many(what), want[what]);
        }
        due(x.many(12), -1);
        due(x.many(-1), -1);
    }

    static void p52() {
        due(x.keep(), 1);
        men(1);
        due(x.keep(), 1);
        x.person(0, 0, 1, heardFor(1, 1));
        x.again();
        due(x.many(2), 1);
        // what was kept isn't what goes on
        x.person(0, 0, 1, heardFor(1, 1));
        x.again();
        due(x.many(2), 1);
    }

    static void p53() {
        due(x.again(), -3);
        men(2);
        x.van(0, 2, hours(300, 420));
        x.thing(0, 3);
        text("free 1;");
        x.keep();
        x.minutes(9);
        x.place(0, 1, 1, 0);
        x.road(0, 1, 5);
        x.traffic(3, 5);
        x.person(1, 0, 1, heardFor(1, 1));
        x.apart(0, 0, true);
        x.bar(0, 1, true);
        x.wire(0, true);
        x.van(0, 1, hours(300, 420));
        x.delay(0, 1, 1, 1);
        x.enter(0, 1, 1, 1);
        x.thing(0, 0);
        x.carry(0, 0);
        text("most 1;most 2;");
        x.feed(0, 3);
        x.sheet(0, 1, 5);
        x.shelf(0, 0, 2);
        x.shelf(1, 1, 1);
        x.shelf(2, 2, 1);
        x.shelf(3, 0, 1);
        x.wire(1, true);
        x.prove(0);
        x.act(0, 0, 1);
        due(x.again(), 1);
        int[] want = {0, 4, 2, 1, 0, 0, 1, 1, 1, 3, 2, 0};
        for (int what = 0; what < 12; what++) {
            due(x.many(what), want[what]);
        }
        due(x.road(0, 1, 9), 60);
        due(x.traffic(3, 9), 0);
        due(x.apart(0, 0, false), 0);
        due(x.bar(0, 1, false), 0);
        due(x.line(0, 0), 1);
        due(x.carry(0, 1), 3);
        due(x.item(0, 1, 4), 0);
        // those that are not there any more are nothing
        due(x.taken(0, 0), -11);
        due(x.taken(1, 0), -11);
        due(x.taken(2, 0), -11);
        due(x.taken(3, 0), 1);
        due(x.act(0, 0, 1), 0);
        // it stays kept
        due(x.again(), 1);
        due(x.road(0, 1, 9), 60);
    }
}
