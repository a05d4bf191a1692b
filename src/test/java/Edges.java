import java.lang.annotation.ElementType;
import java.lang.annotation.Retention;
import java.lang.annotation.RetentionPolicy;
import java.lang.annotation.Target;
import java.lang.reflect.Method;
import java.nio.file.Files;
import java.nio.file.Path;
import java.util.Arrays;
import java.util.Comparator;
import java.util.function.IntUnaryOperator;

/** What the tests share: an object for each, and, where it looks at an edge, a sentence of the document. */
abstract class Edges {
    /** The words of the document whose edge a test looks at; they must stand there just so. */
    @Retention(RetentionPolicy.RUNTIME)
    @Target(ElementType.METHOD)
    @interface Says {
        String value();
    }

    static final int MIN = Integer.MIN_VALUE;
    static final int MAX = Integer.MAX_VALUE;
    static CourtVans x = new CourtVans();
    private static Method test;
    private static int wrong = 0;

    static void run(Class<?> tests) throws Exception {
        String document = plain(Files.readString(Path.of("../shared/DOC.md")));
        Method[] all = tests.getDeclaredMethods();
        Arrays.sort(all, Comparator.comparing(Method::getName));
        int ran = 0;
        for (Method m : all) {
            Says says = m.getAnnotation(Says.class);
            if (says == null) {
                continue;
            }
            if (!document.contains(plain(says.value()))) {
                wrong++;
                System.out.println(m.getName() + ": the document doesn't say: " + says.value());
            }
            begin(m);
            m.invoke(null);
            ran++;
        }
        wrong += ran == 0 ? 1 : 0;
        end(ran + " edges hold");
    }

    static void begin(Method m) {
        test = m;
        x = new CourtVans();
    }

    static void end(String ifAllIsAsDue) {
        System.out.println(wrong == 0 ? ifAllIsAsDue : wrong + " answers are not as due");
        if (wrong != 0) {
            System.exit(1);
        }
    }

    private static String plain(String s) {
        return s.replace("```text", " ").replaceAll("[`\\s]+", " ").trim();
    }

    static void due(int got, int want) {
        due(got, want, "");
    }

    private static void due(int got, int want, String with) {
        if (got == want) {
            return;
        }
        wrong++;
        System.out.println(where() + with + ": answered " + got + ", due is " + want);
        Says says = test.getAnnotation(Says.class);
        if (says != null) {
            System.out.println("    " + says.value());
        }
    }

    /** The lines of the test and of its helpers by which it came here. */
    private static String where() {
        StringBuilder b = new StringBuilder(test.getName());
        for (StackTraceElement e : new Throwable().getStackTrace()) {
            if (e.getClassName().equals(test.getDeclaringClass().getName())) {
                b.append(", line ").append(e.getLineNumber());
            }
            if (e.getMethodName().equals(test.getName())) {
                break;
            }
        }
        return b.toString();
    }

    /** The call answers the same for each of some numbers. */
    static void all(int want, IntUnaryOperator call, int... numbers) {
        for (int n : numbers) {
            due(call.applyAsInt(n), want, ", with " + n);
        }
    }

    static int hours(int from, int till) {
        return 1440 * from + till;
    }

    /** A DUE with a LENGTH. */
    static int heardFor(int length, int due) {
        return 1440 * length + due;
    }

    /** A START with a MOST. */
    static int starts(int most, int start) {
        return 1440 * most + start;
    }

    /** n signs of a text from a place on, as feed() takes them. */
    static long eight(String s, int from, int n) {
        long eight = 0;
        for (int j = 0; j < n; j++) {
            eight |= (s.charAt(from + j) & 255L) << 8 * j;
        }
        return eight;
    }

    /** Feeds a text. */
    static void feed(String s) {
        int there = x.many(9);
        for (int i = 0; i < s.length(); i += 8) {
            int n = Math.min(8, s.length() - i);
            there += n;
            due(x.feed(eight(s, i, n), n), there);
        }
    }

    static int text(String s) {
        feed(s);
        return x.read();
    }

    /** JAIL 0, COURT 1 with 3 CELLS of 2, COURT 2 with 6 of 4, POLICE 3: all open all day; 60 minutes between all. */
    static void town() {
        x.place(0, 20, 1, hours(0, 1439));
        x.place(1, 3, 2, hours(0, 1439));
        x.place(1, 6, 4, hours(0, 1439));
        x.place(2, 20, 1, hours(0, 1439));
    }

    /** The town, and n men of JAIL 0 for COURT 1, DUE at 600, heard for 10 minutes. */
    static void men(int n) {
        town();
        moreMen(n);
    }

    static void moreMen(int n) {
        for (int i = 0; i < n; i++) {
            x.person(0, 0, 1, heardFor(10, 600));
        }
    }
}
