/** 512 of the dearest calls on one object, with a full town. */
public final class DearTest {
    private DearTest() {}

    public static void main(String[] args) {
        long wrong = 0;
        long start = System.nanoTime();
        wrong += plans(false);
        wrong += plans(true);
        wrong += nights();
        long seconds = (System.nanoTime() - start) / 1000000000L;
        System.out.println("dear calls took " + seconds + " s");
        if (wrong != 0 || seconds > 120) {
            System.out.println(wrong + " answers are not as due");
            System.exit(1);
        }
    }

    /** Eight RIDERS to seven COURTS or four, all late, in three VANS. */
    private static long plans(boolean less) {
        CourtVans x = new CourtVans();
        x.place(0, 20, 1, 1439);
        for (int c = 1; c < 8; c++) {
            x.place(1, 6, 4, 1439);
            x.road(0, c, 5 + c);
        }
        for (int p = 0; p < 8; p++) {
            x.person(0, 0, less ? 1 + p % 4 : 1 + p % 7, 1440 + 300);
        }
        for (int v = 0; v < 3; v++) {
            x.van(0, 6, 1440 * 900 + 300 + v);
        }
        for (int d = 0; d < 8; d++) {
            x.delay(d % 3, 300 + 20 * d, 0, 3);
        }
        int first = x.plan(0);
        long wrong = first > 0 ? 0 : 1;
        for (int i = 0; i < 470; i++) {
            wrong += x.plan(0) != first || less && x.less(0) != 0 ? 1 : 0;
        }
        return wrong;
    }

    /** Six who all go away from home, to PLACES with one room each but for the dearest. */
    private static long nights() {
        CourtVans x = new CourtVans();
        x.place(1, 6, 4, 1439);
        x.place(0, 0, 1, 1439);
        for (int q = 2; q < 8; q++) {
            x.place(2, q == 7 ? 20 : 1, 1, 1439);
            x.road(0, q, 3 * q);
        }
        for (int p = 0; p < 6; p++) {
            x.person(0, 1, 0, 1440 + 300);
        }
        long wrong = 0;
        for (int i = 0; i < 480; i++) {
            wrong += x.night(0, 63, 600, -2) != 6 + 9 + 12 + 15 + 18 + 21 ? 1 : 0;
        }
        return wrong;
    }
}
