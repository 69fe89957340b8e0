import java.util.Random;

/** Runs of calls from fixed seeds, each answer compared with the one of PlainDesk. */
public final class RandomRunsTest {
    private static final int RUNS = 500, CALLS = 512, LEAST_CALLS = 64;
    /** All that can be asked, one by one: of places, plates, writers, and in all. */
    private static final int OF_PLACES = 120 * 7, OF_PLATES = 4 * 6, OF_WRITERS = 5 * 6, IN_ALL = 10;
    private static final int QUESTIONS = OF_PLACES + OF_PLATES + OF_WRITERS + IN_ALL;

    private final Random random;
    private final PlateWriters desk = new PlateWriters();
    private final PlainDesk plain = new PlainDesk();
    /** How the run leans: few or all places, how often settings change, how often the dear questions are asked. */
    private final int rows, columns, settings, questions;
    private int asked = 0;

    private RandomRunsTest(long seed) {
        random = new Random(seed);
        rows = 1 + random.nextInt(10);
        columns = 1 + random.nextInt(12);
        settings = random.nextInt(4);
        questions = random.nextInt(3);
    }

    private int upTo(int most) {
        return random.nextInt(most + 1);
    }

    /** Mostly from 0 to most, now and then something that is out of range. */
    private int number(int most) {
        switch (upTo(60)) {
            case 0: return -1;
            case 1: return most + 1;
            case 2: return random.nextInt();
            case 3: return random.nextBoolean() ? Integer.MIN_VALUE : Integer.MAX_VALUE;
            default: return upTo(most);
        }
    }

    private int aRow() {
        return upTo(30) == 0 ? number(9) : upTo(rows - 1);
    }

    private int aColumn() {
        return upTo(30) == 0 ? number(11) : upTo(columns - 1);
    }

    private int aWriter() {
        return upTo(15) == 0 ? number(4) : Math.max(0, upTo(Math.max(1, plain.count(3)) - 1));
    }

    private static final int[] MOST = {18, 9, 99, 50};

    private void change(int kind) {
        int w = aWriter(), r = aRow(), c = aColumn(), n = number(3), v;
        switch (kind) {
            case 0:
                v = number(n >= 0 && n <= 3 ? MOST[n] : 9);
                same("set(" + n + ", " + v + ")", desk.set(n, v), plain.set(n, v)); break;
            case 1: same("plate()", desk.plate(), plain.plate()); break;
            case 2: same("lay(" + n + ")", desk.lay(n), plain.lay(n)); break;
            case 3:
                v = number(5);
                same("writer(" + v + ")", desk.writer(v), plain.writer(v)); break;
            case 4:
                v = number(25);
                same("write(" + w + ", " + r + ", " + c + ", " + v + ")", desk.write(w, r, c, v),
                        plain.write(w, r, c, v)); break;
            case 5:
                same("promise(" + w + ", " + r + ", " + c + ")", desk.promise(w, r, c), plain.promise(w, r, c)); break;
            case 6: same("takeBack(" + r + ", " + c + ")", desk.takeBack(r, c), plain.takeBack(r, c)); break;
            case 7: same("rub(" + r + ", " + c + ")", desk.rub(r, c), plain.rub(r, c)); break;
            default:
                v = upTo(3) == 0 ? number(48) : 1 + upTo(3);
                same("pass(" + v + ")", desk.pass(v), plain.pass(v)); break;
        }
    }

    private void question(int kind) {
        int w = aWriter(), r = aRow(), c = aColumn(), v;
        switch (kind) {
            case 0:
                v = number(6);
                same("at(" + r + ", " + c + ", " + v + ")", desk.at(r, c, v), plain.at(r, c, v)); break;
            case 1:
                v = number(4);
                same("row(" + r + ", " + v + ")", desk.row(r, v), plain.row(r, v)); break;
            case 2:
                v = number(5);
                same("of(" + w + ", " + v + ")", desk.of(w, v), plain.of(w, v)); break;
            case 3:
                v = number(5);
                r = number(3);
                same("ofPlate(" + r + ", " + v + ")", desk.ofPlate(r, v), plain.ofPlate(r, v)); break;
            case 4:
                v = number(9);
                same("count(" + v + ")", desk.count(v), plain.count(v)); break;
            case 5: same("mean()", desk.mean(), plain.mean()); break;
            case 6:
                v = number(2);
                same("ifWritten(" + w + ", " + r + ", " + c + ", " + v + ")", desk.ifWritten(w, r, c, v),
                        plain.ifWritten(w, r, c, v)); break;
            case 7: same("bestPlace()", desk.bestPlace(), plain.bestPlace()); break;
            case 8: same("whoDims(" + r + ", " + c + ")", desk.whoDims(r, c), plain.whoDims(r, c)); break;
            case 9:
                v = number(3);
                same("readableIn(" + v + ")", desk.readableIn(v), plain.readableIn(v)); break;
            default: same("fills(" + w + ")", desk.fills(w), plain.fills(w)); break;
        }
    }

    private String place() {
        return upTo(40) == 0 ? upTo(120) + "." + upTo(120) : upTo(rows - 1) + "." + upTo(columns - 1);
    }

    private String order() {
        int digit = upTo(8) == 0 ? upTo(9) : upTo(4);
        switch (upTo(9)) {
            case 0: return "n";
            case 1: return "o" + digit;
            case 2: return "k" + digit;
            case 3:
            case 4: return "p" + digit + "@" + place();
            case 5: return "x@" + place();
            case 6: return "h" + (upTo(5) == 0 ? upTo(110) : 1 + upTo(30));
            default:
                StringBuilder word = new StringBuilder();
                for (int i = upTo(4); i >= 0; i--) word.append((char) ('a' + upTo(25)));
                return "w" + digit + "@" + place() + "=" + word;
        }
    }

    private String text() {
        StringBuilder text = new StringBuilder();
        int orders = 1 + upTo(7);
        for (int i = 0; i < orders; i++) text.append(i == 0 ? "" : ";").append(order());
        if (upTo(3) == 0) {
            String signs = "nokwpxh;@.=0123456789az~!A";
            int where = upTo(text.length());
            char sign = signs.charAt(upTo(signs.length() - 1));
            switch (upTo(2)) {
                case 0: text.insert(where, sign); break;
                case 1: text.setLength(where); break;
                default: text.setCharAt(Math.min(where, text.length() - 1), sign);
            }
        }
        return text.toString();
    }

    private void write(String text) {
        for (int from = 0; from < text.length() && asked < CALLS - 2;) {
            int to = Math.min(text.length(), from + 1 + upTo(7));
            long characters = 0L;
            for (char sign : text.substring(from, to).toCharArray()) characters = characters << 8 | sign;
            same("put(" + characters + ")", desk.put(characters), plain.put(characters));
            from = to;
        }
    }

    private void onPad(int kind) {
        switch (kind) {
            case 0:
                long odd = upTo(2) == 0 ? random.nextLong() : random.nextLong() & 0x7f7f7f7f7f7f7f7fL >> 8 * upTo(7);
                same("put(" + odd + ")", desk.put(odd), plain.put(odd)); break;
            case 1: same("wipe()", desk.wipe(), plain.wipe()); break;
            case 2: same("fault()", desk.fault(), plain.fault()); break;
            case 3: same("carryOut()", desk.carryOut(), plain.carryOut()); break;
            default:
                write(text());
                same("fault()", desk.fault(), plain.fault());
                same("carryOut()", desk.carryOut(), plain.carryOut()); break;
        }
    }

    private void keeping(int kind) {
        int slot = number(1);
        switch (kind) {
            case 0: same("save(" + slot + ")", desk.save(slot), plain.save(slot)); break;
            case 1: same("restore(" + slot + ")", desk.restore(slot), plain.restore(slot)); break;
            default: same("undo()", desk.undo(), plain.undo()); break;
        }
    }

    private void same(String what, long got, long want) {
        asked++;
        if (got != want) throw new AssertionError(what + " answered " + got + ", due is " + want);
    }

    private void one() {
        int kind = upTo(99);
        if (kind < 4 && upTo(3) < settings) change(0);
        else if (kind < 4) question(upTo(9));
        else if (kind < 6) change(1 + upTo(2));
        else if (kind < 30) change(4);
        else if (kind < 40) change(5);
        else if (kind < 46) change(6 + upTo(2));
        else if (kind < 55) onPad(upTo(asked < CALLS - 2 ? 4 : 3));
        else if (kind < 62) keeping(upTo(5));
        else question(upTo(80) < questions ? 10 : upTo(9));
    }

    private void ask(int question) {
        int it = question;
        if (it < OF_PLACES) {
            int row = it / 84, column = it / 7 % 12, what = it % 7;
            same("at(" + row + ", " + column + ", " + what + ")", desk.at(row, column, what), plain.at(row, column, what));
            return;
        }
        it -= OF_PLACES;
        int who = it / 6, what = it % 6;
        if (it < OF_PLATES) {
            same("ofPlate(" + who + ", " + what + ")", desk.ofPlate(who, what), plain.ofPlate(who, what));
            return;
        }
        it -= OF_PLATES;
        who = it / 6;
        if (it < OF_WRITERS) same("of(" + who + ", " + what + ")", desk.of(who, what), plain.of(who, what));
        else same("count(" + (it - OF_WRITERS) + ")", desk.count(it - OF_WRITERS), plain.count(it - OF_WRITERS));
    }

    /** All calls that an object bears, and that the run has left, look at what there is, from some question on. */
    private void look() {
        int first = random.nextInt(QUESTIONS);
        for (int i = 0; i < QUESTIONS && asked < CALLS; i++) ask((first + i) % QUESTIONS);
    }

    private void run(boolean empty) {
        if (!empty) {
            same("plate()", desk.plate(), plain.plate());
            for (int i = 0; i < 3; i++) {
                int press = 1 + upTo(4);
                same("writer(" + press + ")", desk.writer(press), plain.writer(press));
            }
        }
        int calls = LEAST_CALLS + random.nextInt(CALLS - LEAST_CALLS + 1);
        while (asked < calls) one();
        look();
    }

    public static void main(String[] args) {
        int wrong = 0;
        for (int run = 0; run < RUNS; run++) {
            try {
                new RandomRunsTest(run).run(run % 10 == 0);
            } catch (RuntimeException | AssertionError e) {
                wrong++;
                System.out.println("run " + run + ": " + e);
            }
        }
        System.out.println(wrong == 0 ? RUNS + " random runs are as due" : wrong + " random runs are not as due");
        if (wrong != 0) System.exit(1);
    }
}
