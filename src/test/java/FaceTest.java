import java.io.IOException;
import java.lang.management.ManagementFactory;
import java.lang.reflect.Constructor;
import java.lang.reflect.Field;
import java.lang.reflect.Method;
import java.lang.reflect.Modifier;
import java.nio.file.Files;
import java.nio.file.Path;
import java.util.Arrays;
import java.util.List;
import java.util.TreeSet;
import java.util.regex.Matcher;
import java.util.regex.Pattern;

/** The public face, what LANGUAGE.md asks of the file as far as a test can see it, and what calls make. */
public final class FaceTest {
    private static final String FACE = """
        int at(int,int,int)
        int bestPlace()
        int carryOut()
        int count(int)
        int fault()
        int fills(int)
        int ifWritten(int,int,int,int)
        int lay(int)
        int of(int,int)
        int ofPlate(int,int)
        int pass(int)
        int plate()
        int promise(int,int,int)
        int put(long)
        int readableIn(int)
        int restore(int)
        int row(int,int)
        int rub(int,int)
        int save(int)
        int set(int,int)
        int takeBack(int,int)
        int undo()
        int whoDims(int,int)
        int wipe()
        int write(int,int,int,int)
        int writer(int)
        long mean()
        """;
    private static final String CONSTANTS = "[BAD_TEXT=-3, BAD_VALUE=-2, CLEAR=3, FAR=1, NEAR=0, NONE=-6, "
            + "NOT_POSSIBLE=-5, NO_SUCH=-1, READ=2, TOO_MANY=-4]";
    private static final List<String> LIBRARY = List.of("Arrays.fill", "Math.abs", "Math.max", "Math.min",
            "Pad.LONGEST", "System.arraycopy");
    private static final List<String> RULED_OUT = List.of("->", "::", "catch", "try ", "throw", "finally", "synchronized",
            "assert", "Float.", "Double.", "System.out", "package ", "\" +", "+ \"", "static float", "static double",
            "final float ", "final double ", "strictfp", "native", "volatile", "?>");

    /** So that no object is asked more than 512 times. */
    private static final int ROUNDS = 4, OBJECTS = 8, OF_EACH = 17;

    private static int wrong = 0;

    private static void due(String what, Object got, Object want) {
        if (!got.equals(want)) {
            wrong++;
            System.out.println(what + " is " + got + ", due is " + want);
        }
    }

    private static String told(Method method) {
        StringBuilder told = new StringBuilder(method.getReturnType() + " " + method.getName() + "(");
        for (Class<?> type : method.getParameterTypes()) told.append(told.toString().endsWith("(") ? "" : ",").append(type);
        return told + ")";
    }

    private static void face() throws IllegalAccessException {
        Class<?> it = PlateWriters.class;
        due("the class", Modifier.toString(it.getModifiers()), "public final");
        TreeSet<String> methods = new TreeSet<>(), names = new TreeSet<>(), constants = new TreeSet<>();
        for (Method method : it.getDeclaredMethods())
            if (!Modifier.isPrivate(method.getModifiers())) {
                due(method.getName(), Modifier.toString(method.getModifiers()), "public");
                methods.add(told(method));
                names.add(method.getName());
            }
        due("the methods", String.join("\n", methods) + "\n", FACE);
        for (Method method : it.getDeclaredMethods())
            if (Modifier.isPrivate(method.getModifiers()))
                due("private " + method.getName() + " bears a public name", names.contains(method.getName()), false);
        for (Field field : it.getDeclaredFields())
            if (!Modifier.isPrivate(field.getModifiers())) {
                due(field.getName(), Modifier.toString(field.getModifiers()), "public static final");
                constants.add(field.getName() + "=" + field.getInt(null));
            }
        due("the constants", constants.toString(), CONSTANTS);
        Constructor<?>[] constructors = it.getDeclaredConstructors();
        due("the constructors", constructors.length, 1);
        due("the constructor", constructors[0].toString(), "public PlateWriters()");
        due("the classes inside", it.getDeclaredClasses().length <= 11, true);
        for (Class<?> inside : it.getDeclaredClasses()) {
            due(inside.getName(), Modifier.isStatic(inside.getModifiers()) && !Modifier.isPublic(inside.getModifiers()), true);
            due(inside.getName() + " has few fields", inside.getDeclaredFields().length <= 20, true);
            for (Method method : inside.getDeclaredMethods()) {
                due(method + " bears a name of the face", names.contains(method.getName()), false);
                due(method + " has few parameters", method.getParameterCount() <= 7, true);
            }
        }
    }

    private static void source() throws IOException {
        String source = Files.readString(Path.of("src/main/java/PlateWriters.java"));
        for (String sign : source.split("\n"))
            if (sign.startsWith("import ")) due("an import", sign, "import java.util.Arrays;");
        String code = source.replaceAll("(?m)//.*$", "").replaceAll("(?s)/\\*.*?\\*/", "");
        for (String word : RULED_OUT) due("the file has '" + word + "'", code.contains(word), false);
        Matcher used = Pattern.compile("\\b[A-Z]\\w*\\.\\w+").matcher(code);
        while (used.find()) due(used.group() + " may be used", LIBRARY.contains(used.group()), true);
        methodsAreShort(source.split("\n"));
    }

    /** Each block that begins where methods do; those inside methods are shorter still. */
    private static void methodsAreShort(String[] lines) {
        for (int first = 0; first < lines.length; first++) {
            Matcher head = Pattern.compile("( {4}| {8})\\S.*\\) \\{").matcher(lines[first]);
            int last = first;
            while (head.matches() && !lines[last].equals(head.group(1) + "}")) last++;
            due("the length of '" + lines[first].trim() + "' is fine", last - first < 60, true);
        }
    }

    /** One room holds all that a run makes: after the constructor, no call makes anything. */
    private static void room() {
        PlateWriters[] objects = new PlateWriters[ROUNDS * OBJECTS];
        for (int i = 0; i < objects.length; i++) {
            objects[i] = new PlateWriters();
            objects[i].plate();
            objects[i].writer(1);
        }
        com.sun.management.ThreadMXBean threads =
                (com.sun.management.ThreadMXBean) ManagementFactory.getThreadMXBean();
        long self = Thread.currentThread().getId();
        long[] made = new long[ROUNDS];
        for (int round = 0; round < ROUNDS; round++) {
            long before = threads.getThreadAllocatedBytes(self);
            for (int i = 0; i < OBJECTS * OF_EACH; i++) oneOfEach(objects[round * OBJECTS + i / OF_EACH], i);
            made[round] = threads.getThreadAllocatedBytes(self) - before;
        }
        Arrays.sort(made);
        int calls = OBJECTS * OF_EACH;
        due("bytes made by " + calls + " calls of each (" + made[0] + ") are few", made[0] < 4096L, true);
    }

    private static void oneOfEach(PlateWriters x, int i) {
        x.set(i % 4, i % 10 + 1);
        x.plate();
        x.lay(i % 4);
        x.writer(i % 5 + 1);
        x.write(i % 5, i % 10, i % 12, i % 26);
        x.promise(i % 5, (i + 3) % 10, i % 12);
        x.takeBack(i % 10, i % 12);
        x.rub(i % 10, i % 12);
        x.pass(i % 48);
        x.at(i % 10, i % 12, i % 7);
        x.row(i % 10, i % 5);
        x.of(i % 5, i % 6);
        x.ofPlate(i % 4, i % 6);
        x.count(i % 10);
        x.mean();
        x.ifWritten(i % 5, i % 10, i % 12, i % 3);
        x.bestPlace();
        x.fills(i % 5);
        x.whoDims(i % 10, i % 12);
        x.readableIn(i % 4);
        x.put(0x77304031L);
        x.put(0x2e323d61L);
        x.put(0x6263L);
        x.fault();
        x.carryOut();
        x.wipe();
        x.undo();
        x.save(i % 2);
        x.restore(i % 2);
    }

    public static void main(String[] args) throws IOException, IllegalAccessException {
        face();
        source();
        room();
        System.out.println(wrong == 0 ? "the face is as due" : wrong + " things are not as due");
        if (wrong != 0) System.exit(1);
    }
}
