import java.lang.reflect.Method;
import java.lang.reflect.Modifier;
import java.util.ArrayList;
import java.util.Arrays;
import java.util.Comparator;
import java.util.List;
import java.util.Set;

/** Each method with all numbers of a grid, mostly last right ones and first wrong ones, in three towns: as the Model. */
public final class GridTest {
    private static final int LIFE = 512;
    private static final Set<String> QUESTIONS = Set.of("drive", "foes", "of", "route", "arrival", "riders", "plan", "vanOf",
        "less", "bound", "row", "judge", "held", "at", "counted", "came", "heard", "line", "part", "fine", "night", "lacks",
        "fetch", "item", "taken", "trace", "many");
    private static final int[] FEW = {Integer.MIN_VALUE, -15, -3, -2, -1, 0, 1, 2, 3, 4, 5, 6, 7, 8, 9, 10, 11, 12, 13, 14,
        15, 16, 20, 21, 23, 24, 39, 40, 41, 59, 60, 200, 201, 240, 241, 300, 301, 1439, 1440, 4095, 4096, 1440 * 60 - 1,
        1440 * 60, 1440 * 121 - 1, 1440 * 121, 1440 * 901 - 1, 1440 * 901, 1440 * 1440 - 1, 1440 * 1440, Integer.MAX_VALUE};
    private static final int[] FEWER = {Integer.MIN_VALUE, -2, -1, 0, 1, 2, 3, 4, 6, 8, 12, 21, 127, 240, 1439, 1440,
        1440 * 120, Integer.MAX_VALUE};
    private static final int[] FEWEST = {Integer.MIN_VALUE, -2, -1, 0, 1, 2, 3, 4, 8, 12, 1439, 1440, 1440 * 120, Integer.MAX_VALUE};

    private static final String SMALL = """
        place 0 3 1 433200, place 1 2 2 721000, place 1 6 4 500, place 2 2 1 1439, road 0 1 30, traffic 8 20,
        person 0 0 1 29300, person 0 0 1 29301, person 1 0 2 29302, person 2 3 1 29303, person 3 0 1 29304, wire 4 1,
        bar 0 1 1, van 0 2 432420, van 0 6 432430, delay 0 430 0 5, delay 1 0 2 9, enter 0 1 510 2, enter 1 1 505 1,
        minutes 100, enter 0 3 900 0, thing 0 3, thing 0 -1, thing 1 1, feed 4265807287259853414 8, read, keep, minutes 9,
        feed 4265807287259853414 8, prove 0, alterRow 1 2 123, sheet 0 1 8, put 0 4 2, put 0 7 -3, sheet 1 3 2, shelf 0 0 1,
        shelf 1 3 0, shelf 2 2 1, act 0 3 5""";
    private static final String LARGE = """
        place 0 20 1 1439, place 1 6 4 1439, place 2 9 1 1439, place 0 9 1 1439, place 1 6 4 1439, place 2 9 1 1439,
        place 0 9 1 1439, place 1 6 4 1439, person 0 0 1 29300, person 1 0 1 29300, person 3 0 4 29300, person 0 0 4 29900,
        van 0 6 432420, van 0 6 432421, van 0 6 432422, prove 0, person 0 0 1 29300, person 0 0 1 29300, person 0 0 1 29300,
        person 0 0 1 29300, person 0 0 1 29300, person 0 2 1 29300, person 0 2 7 29300, person 2 2 1 29300,
        delay 0 1 0 9, delay 0 2 1 9, delay 0 3 2 9, delay 0 4 3 9, delay 1 5 0 9, delay 1 6 1 9, delay 2 7 2 9, delay 2 8 3 9,
        thing 0 0, thing 0 -1, thing 1 2, thing 1 3, thing 2 4, thing 2 5, thing 3 6, thing 0 7, thing 0 1, thing 0 2,
        thing 0 3, thing 0 4, thing 0 5, thing 0 6, thing 2 7, thing 3 -1, enter 0 1 550 2, enter 1 1 560 1, minutes 1439,
        keep, sheet 0 0 40, sheet 1 1 40, sheet 2 2 40, sheet 3 3 40, shelf 0 0 1, shelf 1 1 2, shelf 2 2 15, shelf 3 3 3,
        act 2 3 7""";

    private static int wrong = 0;
    private static long tried = 0;

    private final String town;
    private CourtVans real;
    private Model model;
    private int calls;

    private GridTest(String town) {
        this.town = town;
    }

    public static void main(String[] args) throws Exception {
        for (String town : new String[] {"", SMALL, LARGE}) {
            GridTest t = new GridTest(town);
            for (Method m : methods()) {
                t.build();
                t.grid(m, new Object[m.getParameterCount()], 0);
            }
        }
        System.out.println(wrong == 0 ? tried + " calls of the grid are as the model's" : wrong + " answers are not as the model's");
        if (wrong != 0) {
            System.exit(1);
        }
    }

    private static List<Method> methods() {
        List<Method> all = new ArrayList<>();
        for (Method m : CourtVans.class.getDeclaredMethods()) {
            if (Modifier.isPublic(m.getModifiers())) {
                all.add(m);
            }
        }
        all.sort(Comparator.comparing(Method::getName));
        return all;
    }

    private void build() throws Exception {
        real = new CourtVans();
        model = new Model();
        calls = 0;
        for (String call : town.isEmpty() ? new String[0] : town.split(",")) {
            String[] words = call.trim().split(" ");
            for (Method m : methods()) {
                if (m.getName().equals(words[0])) {
                    call(m, values(m, words));
                }
            }
        }
        // what THE TAPE and the ENTRIES may hold is too much to write out
        for (int i = 0; i < 38 && town.equals(LARGE); i++) {
            due("enter", real.enter(i % 12, i % 8, 500 + i, i % 4), model.enter(i % 12, i % 8, 500 + i, i % 4));
        }
        for (int i = 0; i < 25 && town.equals(LARGE); i++) {
            due("feed", real.feed(0x3B20362074736F6DL, 8), model.feed(0x3B20362074736F6DL, 8));
        }
        calls += 63;
    }

    private static Object[] values(Method m, String[] words) {
        Object[] values = new Object[m.getParameterCount()];
        for (int i = 0; i < values.length; i++) {
            Class<?> type = m.getParameterTypes()[i];
            long n = Long.parseLong(words[i + 1]);
            values[i] = value(type, n);
        }
        return values;
    }

    private static Object value(Class<?> type, long n) {
        if (type == boolean.class) {
            return n == 1;
        }
        return type == long.class ? (Object) n : (Object) (int) n;
    }

    private void grid(Method m, Object[] values, int i) throws Exception {
        if (i == values.length) {
            int got = call(m, values);
            if (got >= 0 && !QUESTIONS.contains(m.getName()) || calls >= LIFE) {
                build();
            }
            return;
        }
        Class<?> type = m.getParameterTypes()[i];
        int[] numbers = values.length < 3 ? FEW : values.length == 3 ? FEWER : FEWEST;
        for (int n : type == boolean.class ? new int[] {0, 1} : numbers) {
            values[i] = value(type, n);
            grid(m, values, i + 1);
        }
    }

    private int call(Method m, Object[] values) throws Exception {
        Method told = Model.class.getDeclaredMethod(m.getName(), m.getParameterTypes());
        int got = (Integer) m.invoke(real, values);
        due(m.getName() + Arrays.toString(values), got, (Integer) told.invoke(model, values));
        calls++;
        tried++;
        return got;
    }

    private static void due(String call, int got, int want) {
        if (got != want) {
            wrong++;
            System.out.println(call + " answered " + got + ", due is " + want);
        }
    }
}
