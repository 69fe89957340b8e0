import java.lang.reflect.InvocationTargetException;
import java.lang.reflect.Method;
import java.util.ArrayList;
import java.util.Comparator;
import java.util.List;

/** What the tests have in common; a test class extends it only to use its names. */
abstract class Checks {
    static final int NO_SUCH = -1, BAD_VALUE = -2, BAD_TEXT = -3, TOO_MANY = -4, NOT_POSSIBLE = -5, NONE = -6;
    static final int NEAR = 0, FAR = 1, READ = 2, CLEAR = 3;
    static final int MIN = Integer.MIN_VALUE, MAX = Integer.MAX_VALUE;
    /** Places just beyond each edge of a plate, and far beyond. */
    static final int[][] NO_PLACES = {{-1, 0}, {10, 0}, {0, -1}, {0, 12}, {-1, 12}, {9, 12}, {10, 11}, {MIN, 0},
        {MAX, 0}, {0, MIN}, {0, MAX}, {MAX, MAX}, {MIN, MIN}};
    static final int[][] CORNERS = {{0, 0}, {0, 11}, {9, 0}, {9, 11}};

    static String about = "";
    static int passed = 0, failed = 0;

    interface Made {
        PlateWriters desk();
    }

    interface Call {
        long on(PlateWriters x);
    }

    static void due(String call, long got, long want) {
        if (got == want) {
            passed++;
        } else {
            failed++;
            System.out.println(about + ": " + call + " answered " + got + ", due is " + want);
        }
    }

    static void light(String call, int got, float want) {
        due(call, got, Float.floatToIntBits(want));
    }

    static void sure(String what, boolean holds) {
        due(what, holds ? 1 : 0, 1);
    }

    /** A ring's step, as the document writes it. */
    static float dim(float light, int loss) {
        return light * (float) (100 - loss) / 100.0f;
    }

    static float clear(float light, int hundredths) {
        return light + (1.0f - light) * (float) hundredths / 100.0f;
    }

    static float lightOf(PlateWriters x, int place) {
        return Float.intBitsToFloat(x.at(place / 12, place % 12, 3));
    }

    /** A desk with one plate and writers who press so hard. */
    static PlateWriters desk(int... presses) {
        PlateWriters x = new PlateWriters();
        x.plate();
        for (int press : presses) x.writer(press);
        return x;
    }

    /** As desk(), but no letter takes light away. */
    static PlateWriters clearDesk(int... presses) {
        PlateWriters x = desk(presses);
        x.set(NEAR, 0);
        x.set(FAR, 0);
        return x;
    }

    /** A letter at (4, 4) has taken so much light from (4, 5), and an hour aside has given so much of that back. */
    static PlateWriters clearedBeside(int loss, int hundredths, boolean letterThere) {
        PlateWriters x = desk(5);
        x.set(NEAR, loss / 5);
        x.set(CLEAR, hundredths);
        if (letterThere) x.write(0, 4, 5, 0);
        x.write(0, 4, 4, 0);
        x.plate();
        x.pass(1);
        x.lay(0);
        light("at(4, 5, 3)", x.at(4, 5, 3), clear(dim(1.0f, loss), hundredths));
        return x;
    }

    /** Its light is one bit less than 0.79, though 100 times as much would round to 79. */
    static PlateWriters oneBitTooDark(boolean letterThere) {
        PlateWriters x = clearedBeside(30, 30, letterThere);
        float it = lightOf(x, 53);
        sure("a bit less than 0.79", it == Math.nextDown(79.0f / 100.0f) && it * 100.0f >= 79.0f);
        x.set(READ, 79);
        return x;
    }

    /** Its light is just 0.53, though 100 times as much would round to less than 53. */
    static PlateWriters justBrightEnough(boolean letterThere) {
        PlateWriters x = clearedBeside(50, 6, letterThere);
        float it = lightOf(x, 53);
        sure("just 0.53", it == 53.0f / 100.0f && it * 100.0f < 53.0f);
        x.set(READ, 53);
        return x;
    }

    static void writeAll(PlateWriters x, int writer) {
        for (int place = 0; place < 120; place++) x.write(writer, place / 12, place % 12, place % 26);
    }

    static void promiseAll(PlateWriters x, int writer) {
        for (int place = 0; place < 120; place++) x.promise(writer, place / 12, place % 12);
    }

    static void writeAndRub(PlateWriters x, int times, int row, int column) {
        for (int i = 0; i < times; i++) {
            x.write(0, row, column, 0);
            x.rub(row, column);
        }
    }

    static int put(PlateWriters x, String text) {
        int answer = 0;
        for (int from = 0; from < text.length(); from += 8)
            answer = x.put(packed(text.substring(from, Math.min(text.length(), from + 8))));
        return answer;
    }

    static long packed(String signs) {
        long characters = 0L;
        for (char sign : signs.toCharArray()) characters = characters << 8 | sign;
        return characters;
    }

    static int faultOf(String text) {
        PlateWriters x = new PlateWriters();
        put(x, text);
        return x.fault();
    }

    static int carry(PlateWriters x, String text) {
        put(x, text);
        return x.carryOut();
    }

    static String repeated(String text, int times, String between) {
        StringBuilder all = new StringBuilder();
        for (int i = 0; i < times; i++) all.append(i == 0 ? "" : between).append(text);
        return all.toString();
    }

    /** Two plates, two writers, letters, promises, hours, both slots and a text on the pad; two changes so far. */
    static PlateWriters someDesk() {
        PlateWriters x = new PlateWriters();
        carry(x, "n;k5;k1;w0@4.4=d;p1@6.6;w1@9.11=z");
        x.save(0);
        carry(x, "n;w1@5.5=h;p0@2.9;p1@7.2;h2");
        x.save(1);
        put(x, "h1;k2");
        return x;
    }

    /** As someDesk(), with as many changes as can be kept, and one more. */
    static PlateWriters busyDesk() {
        PlateWriters x = someDesk();
        for (int value = 11; value < 16; value++) x.set(CLEAR, value);
        return x;
    }

    /** The call answers so, and leaves the desk like its twin that was never asked. */
    static void stays(String call, Made made, Call asked, long want) {
        due(call, asked.on(made.desk()), want);
        same(call, () -> {
            PlateWriters x = made.desk();
            asked.on(x);
            return x;
        }, made);
    }

    /** As stays(), on a desk where much could change. */
    static void refused(String call, Call asked, long error) {
        stays(call, Checks::busyDesk, asked, error);
    }

    /** The call answers so and is a change: it can be undone, alone, and nothing is left of it then. */
    static void changes(String call, Made made, Call asked, long want) {
        PlateWriters x = made.desk();
        int before = x.count(9);
        due(call, asked.on(x), want);
        due("count(9) behind " + call, x.count(9), before + 1);
        due("undo() of " + call, x.undo(), before);
        same("undone " + call, () -> {
            PlateWriters undone = made.desk();
            asked.on(undone);
            undone.undo();
            return undone;
        }, made);
    }

    /** What is kept besides what there is now: what can be undone, the pad, the slots. */
    private static final Call[] LATER = {x -> x.fault(), x -> undo(x, 1), x -> undo(x, 2), x -> undo(x, 3),
        x -> undo(x, 4), x -> undo(x, 5), x -> undo(x, 6), x -> undo(x, 7), x -> x.carryOut(), x -> x.restore(0),
        x -> x.restore(1)};
    private static final int QUESTIONS = 10 + 120 * 4 + 5 * 6 + 4 * 6, AT_ONCE = QUESTIONS / 3 + 1;

    /** Made anew for each few questions, as no object is asked more than 512 times. */
    static void same(String call, Made made, Made twin) {
        for (int later = 0; later < LATER.length; later++)
            for (int first = 0; first < QUESTIONS; first += AT_ONCE)
                if (!alike(call + ", looked at " + later, made.desk(), twin.desk(), LATER[later], first)) return;
        passed++;
    }

    private static boolean alike(String when, PlateWriters x, PlateWriters twin, Call later, int first) {
        long got = later.on(x), want = later.on(twin);
        int question = first;
        while (got == want && question < Math.min(QUESTIONS, first + AT_ONCE)) {
            got = ask(x, question);
            want = ask(twin, question);
            question++;
        }
        if (got != want) due(when + ", question " + (question - 1), got, want);
        return got == want;
    }

    private static int undo(PlateWriters x, int times) {
        int left = 0;
        for (int i = 0; i < times; i++) left = x.undo();
        return left;
    }

    /** The questions that tell all there is; the others are reckoned from them. */
    private static int ask(PlateWriters x, int question) {
        int it = question;
        if (it < 10) return x.count(it);
        it -= 10;
        if (it < 120 * 4) return x.at(it / 48, it / 4 % 12, it % 4);
        it -= 120 * 4;
        return it < 5 * 6 ? x.of(it / 6, it % 6) : x.ofPlate((it - 30) / 6, (it - 30) % 6);
    }

    /** The tests of a class, by their promises and names. */
    static List<Method> testsOf(Class<?> tests) {
        List<Method> methods = new ArrayList<>();
        for (Method method : tests.getDeclaredMethods())
            if (method.isAnnotationPresent(Boundary.class)) methods.add(method);
        methods.sort(Comparator.comparingInt((Method m) -> m.getAnnotation(Boundary.class).of())
                .thenComparing(Method::getName));
        return methods;
    }

    /** Runs each test of a class, tells those that fail, and ends with exit code 1 if there was one. */
    static void runAll(Class<?> tests) {
        List<Method> methods = testsOf(tests);
        for (Method method : methods) run(method);
        System.out.println(methods.size() + " boundaries: " + passed + " answers as due, " + failed + " not");
        if (failed != 0) System.exit(1);
    }

    private static void run(Method method) {
        Boundary boundary = method.getAnnotation(Boundary.class);
        String says = String.join("\", \"", boundary.says());
        about = "promise " + boundary.of() + ", " + method.getName() + " (\"" + says + "\")";
        int before = passed + failed;
        try {
            method.invoke(null);
        } catch (InvocationTargetException e) {
            failed++;
            System.out.println(about + ": threw " + e.getCause());
        } catch (IllegalAccessException e) {
            failed++;
            System.out.println(about + ": cannot be called");
        }
        if (passed + failed == before) {
            failed++;
            System.out.println(about + ": tests nothing");
        }
    }
}
