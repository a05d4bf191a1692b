import java.lang.annotation.ElementType;
import java.lang.annotation.Retention;
import java.lang.annotation.RetentionPolicy;
import java.lang.annotation.Target;
import java.lang.reflect.Method;
import java.nio.charset.StandardCharsets;
import java.nio.file.Files;
import java.nio.file.Path;
import java.util.Arrays;
import java.util.Comparator;
import java.util.function.IntUnaryOperator;

/** What the tests of edges share: each one has a sentence of the document and an object of its own. */
abstract class Edges {
    /** The words of the document whose edge a test looks at; they must stand there just so. */
    @Retention(RetentionPolicy.RUNTIME)
    @Target(ElementType.METHOD)
    @interface Says {
        String value();
    }

    static final int MIN = Integer.MIN_VALUE;
    static final int MAX = Integer.MAX_VALUE;
    static CourtVans x = new CourtVans();
    private static Method test;
    private static int wrong = 0;

    static void run(Class<?> tests) throws Exception {
        String document = plain(Files.readString(Path.of("../shared/DOC.md")));
        Method[] all = tests.getDeclaredMethods();
        Arrays.sort(all, Comparator.comparing(Method::getName));
        int ran = 0;
        for (Method m : all) {
            Says says = m.getAnnotation(Says.class);
            if (says == null) {
                continue;
            }
            if (!document.contains(plain(says.value()))) {
                wrong++;
                System.out.println(m.getName() + ": the document doesn't say: " + says.value());
            }
            test = m;
            x = new CourtVans();
            m.invoke(null);
            ran++;
        }
        System.out.println(wrong == 0 ? ran + " edges hold" : wrong + " answers are not as due");
        if (wrong != 0 || ran == 0) {
            System.exit(1);
        }
    }

    private static String plain(String s) {
        return s.replace("```text", " ").replaceAll("[`\\s]+", " ").trim();
    }

    static void due(int got, int want) {
        due(got, want, "");
    }

    private static void due(int got, int want, String with) {
        if (got == want) {
            return;
        }
        wrong++;
        int line = 0;
        for (StackTraceElement e : new Throwable().getStackTrace()) {
            line = line == 0 && e.getMethodName().equals(test.getName()) ? e.getLineNumber() : line;
        }
        System.out.println(test.getName() + ", line " + line + with + ": answered " + got + ", due is " + want);
        System.out.println("    " + test.getAnnotation(Says.class).value());
    }

    /** The call answers the same for each of some numbers. */
    static void all(int want, IntUnaryOperator call, int... numbers) {
        for (int n : numbers) {
            due(call.applyAsInt(n), want, ", with " + n);
        }
    }

    static int hours(int from, int till) {
        return 1440 * from + till;
    }

    /** A DUE with a LENGTH. */
    static int heardFor(int length, int due) {
        return 1440 * length + due;
    }

    /** A START with a MOST. */
    static int starts(int most, int start) {
        return 1440 * most + start;
    }

    /** Feeds a text, and answers how many bytes there are. */
    static int feed(String s) {
        byte[] b = s.getBytes(StandardCharsets.ISO_8859_1);
        int there = x.many(9);
        for (int i = 0; i < b.length; i += 8) {
            long eight = 0;
            int n = Math.min(8, b.length - i);
            for (int j = 0; j < n; j++) {
                eight |= (b[i + j] & 255L) << 8 * j;
            }
            there += n;
            due(x.feed(eight, n), there);
        }
        return there;
    }

    static int text(String s) {
        feed(s);
        return x.read();
    }

    /** JAIL 0, COURT 1 with 3 CELLS of 2, COURT 2 with 6 of 4, POLICE 3: all open all day; 60 minutes between all. */
    static void town() {
        x.place(0, 20, 1, hours(0, 1439));
        x.place(1, 3, 2, hours(0, 1439));
        x.place(1, 6, 4, hours(0, 1439));
        x.place(2, 20, 1, hours(0, 1439));
    }

    /** The town, and n men of JAIL 0 for COURT 1, DUE at 600, heard for 10 minutes. */
    static void men(int n) {
        town();
        moreMen(n);
    }

    static void moreMen(int n) {
        for (int i = 0; i < n; i++) {
            x.person(0, 0, 1, heardFor(10, 600));
        }
    }
}
