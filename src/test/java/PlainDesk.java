import java.util.ArrayDeque;
import java.util.ArrayList;
import java.util.Deque;
import java.util.List;
import java.util.function.IntSupplier;
import java.util.regex.Matcher;
import java.util.regex.Pattern;

/**
 * The document once more, told as plainly as the Java library lets it: every light told ahead writes all promises on
 * a copy, every question copies the whole state. The random runs compare PlateWriters with it.
 */
final class PlainDesk {
    private static final int NO_SUCH = -1, BAD_VALUE = -2, BAD_TEXT = -3, TOO_MANY = -4, NOT_POSSIBLE = -5, NONE = -6;
    private static final String DIGIT = "[0-9]", NUMBER = "(?:0|[1-9][0-9]?)", PLACE = NUMBER + "\\." + NUMBER;
    private static final String ORDER = "(?:n|o" + DIGIT + "|k" + DIGIT + "|w" + DIGIT + "@" + PLACE + "=[a-z]+|p"
            + DIGIT + "@" + PLACE + "|x@" + PLACE + "|h" + NUMBER + ")";
    private static final Pattern TEXT = Pattern.compile(ORDER + "(?:;" + ORDER + ")*");

    static final class Spot {
        float light = 1.0f;
        int letter = NONE;
        int writer = NONE;
        int promised = NONE;

        Spot copy() {
            Spot copy = new Spot();
            copy.light = light;
            copy.letter = letter;
            copy.writer = writer;
            copy.promised = promised;
            return copy;
        }
    }

    static final class State {
        int near = 6, far = 2, read = 40, clear = 10, hours = 0, onDesk = NONE;
        List<Spot[][]> plates = new ArrayList<>();
        List<int[]> writers = new ArrayList<>(); // press, written, spoiled

        State copy() {
            State copy = new State();
            copy.near = near;
            copy.far = far;
            copy.read = read;
            copy.clear = clear;
            copy.hours = hours;
            copy.onDesk = onDesk;
            for (Spot[][] plate : plates) copy.plates.add(copyOf(plate));
            for (int[] writer : writers) copy.writers.add(writer.clone());
            return copy;
        }
    }

    private State state = new State();
    private final Deque<State> history = new ArrayDeque<>();
    private final State[] slots = new State[2];
    private String pad = "";

    private static Spot[][] copyOf(Spot[][] plate) {
        Spot[][] copy = new Spot[10][12];
        for (int r = 0; r < 10; r++) for (int c = 0; c < 12; c++) copy[r][c] = plate[r][c].copy();
        return copy;
    }

    private int change(IntSupplier what) {
        State before = state.copy();
        int answer = what.getAsInt();
        if (answer >= 0) {
            history.addLast(before);
            if (history.size() > 6) history.removeFirst();
        }
        return answer;
    }

    private Spot[][] desk() {
        return state.onDesk == NONE ? null : state.plates.get(state.onDesk);
    }

    private boolean noPlace(int row, int column) {
        return state.onDesk == NONE || row < 0 || row > 9 || column < 0 || column > 11;
    }

    private boolean noWriter(int writer) {
        return writer < 0 || writer >= state.writers.size();
    }

    private float threshold() {
        return (float) state.read / 100.0f;
    }

    private static int ring(int r, int c, int row, int column) {
        boolean first = Math.abs(r - row) <= 1 && Math.abs(c - column) <= 1;
        boolean second = Math.abs(r - row) <= 2 && Math.abs(c - column) <= 2;
        return r == row && c == column ? 0 : first ? 1 : second ? 2 : 3;
    }

    private float step(float light, int press, int ring) {
        if (ring == 1) return light * (float) (100 - state.near * press) / 100.0f;
        if (ring == 2) return light * (float) (100 - state.far * press) / 100.0f;
        return light;
    }

    private void cloud(Spot[][] plate, int press, int row, int column) {
        for (int r = 0; r < 10; r++)
            for (int c = 0; c < 12; c++)
                plate[r][c].light = step(plate[r][c].light, press, ring(r, c, row, column));
    }

    private void force(Spot[][] plate, int writer, int row, int column, int letter) {
        cloud(plate, state.writers.get(writer)[0], row, column);
        plate[row][column].letter = letter;
        plate[row][column].writer = writer;
        plate[row][column].promised = NONE;
    }

    private float ahead(Spot[][] plate, int row, int column) {
        Spot[][] copy = copyOf(plate);
        for (int r = 0; r < 10; r++)
            for (int c = 0; c < 12; c++)
                if (plate[r][c].promised != NONE && !(r == row && c == column))
                    cloud(copy, state.writers.get(plate[r][c].promised)[0], r, c);
        return copy[row][column].light;
    }

    private boolean room(Spot[][] plate, int r, int c) {
        return plate[r][c].letter == NONE && plate[r][c].promised == NONE && ahead(plate, r, c) >= threshold();
    }

    private boolean readable(Spot spot) {
        return spot.letter != NONE && spot.light >= threshold();
    }

    private static int spoiled(Spot[][] before, Spot[][] then, float threshold, int exceptRow, int exceptColumn) {
        int many = 0;
        for (int r = 0; r < 10; r++)
            for (int c = 0; c < 12; c++)
                if (!(r == exceptRow && c == exceptColumn) && before[r][c].letter != NONE
                        && before[r][c].light >= threshold && then[r][c].light < threshold) many++;
        return many;
    }

    int set(int setting, int value) {
        return change(() -> doSet(setting, value));
    }

    private int doSet(int setting, int value) {
        int was;
        switch (setting) {
            case 0:
                if (value < 0 || value > 18) return BAD_VALUE;
                was = state.near;
                state.near = value;
                return was;
            case 1:
                if (value < 0 || value > 9) return BAD_VALUE;
                was = state.far;
                state.far = value;
                return was;
            case 2:
                if (value < 1 || value > 99) return BAD_VALUE;
                was = state.read;
                state.read = value;
                return was;
            case 3:
                if (value < 0 || value > 50) return BAD_VALUE;
                was = state.clear;
                state.clear = value;
                return was;
            default:
                return BAD_VALUE;
        }
    }

    int plate() {
        return change(this::doPlate);
    }

    private int doPlate() {
        if (state.plates.size() == 4) return TOO_MANY;
        Spot[][] plate = new Spot[10][12];
        for (Spot[] line : plate) for (int c = 0; c < 12; c++) line[c] = new Spot();
        state.plates.add(plate);
        return state.onDesk = state.plates.size() - 1;
    }

    int lay(int plate) {
        return change(() -> doLay(plate));
    }

    private int doLay(int plate) {
        if (plate < 0 || plate >= state.plates.size()) return NO_SUCH;
        if (plate == state.onDesk) return NOT_POSSIBLE;
        int was = state.onDesk;
        state.onDesk = plate;
        return was;
    }

    int writer(int press) {
        return change(() -> doWriter(press));
    }

    private int doWriter(int press) {
        if (press < 1 || press > 5) return BAD_VALUE;
        if (state.writers.size() == 5) return TOO_MANY;
        state.writers.add(new int[] {press, 0, 0});
        return state.writers.size() - 1;
    }

    int write(int writer, int row, int column, int letter) {
        return change(() -> doWrite(writer, row, column, letter));
    }

    private int doWrite(int writer, int row, int column, int letter) {
        if (noWriter(writer) || noPlace(row, column)) return NO_SUCH;
        if (letter < 0 || letter > 25) return BAD_VALUE;
        Spot spot = desk()[row][column];
        if (spot.letter != NONE) return NOT_POSSIBLE;
        if (spot.promised != NONE && spot.promised != writer) return NOT_POSSIBLE;
        if (!(spot.light >= threshold())) return NOT_POSSIBLE;
        Spot[][] before = copyOf(desk());
        force(desk(), writer, row, column, letter);
        int many = spoiled(before, desk(), threshold(), row, column);
        state.writers.get(writer)[1]++;
        state.writers.get(writer)[2] += many;
        return many;
    }

    int promise(int writer, int row, int column) {
        return change(() -> doPromise(writer, row, column));
    }

    private int doPromise(int writer, int row, int column) {
        if (noWriter(writer) || noPlace(row, column)) return NO_SUCH;
        if (!room(desk(), row, column)) return NOT_POSSIBLE;
        desk()[row][column].promised = writer;
        return ofPlate(state.onDesk, 2);
    }

    int takeBack(int row, int column) {
        return change(() -> {
            if (noPlace(row, column)) return NO_SUCH;
            int was = desk()[row][column].promised;
            if (was == NONE) return NOT_POSSIBLE;
            desk()[row][column].promised = NONE;
            return was;
        });
    }

    int rub(int row, int column) {
        return change(() -> doRub(row, column));
    }

    private int doRub(int row, int column) {
        if (noPlace(row, column)) return NO_SUCH;
        Spot spot = desk()[row][column];
        if (spot.letter == NONE) return NOT_POSSIBLE;
        int was = spot.letter;
        spot.letter = NONE;
        spot.writer = NONE;
        spot.light = (spot.light + 1.0f) / 2.0f;
        return was;
    }

    int pass(int hours) {
        return change(() -> doPass(hours));
    }

    private int doPass(int hours) {
        if (hours < 1 || hours > 48) return BAD_VALUE;
        if (state.hours + hours > 9999) return NOT_POSSIBLE;
        for (int h = 0; h < hours; h++)
            for (int p = 0; p < state.plates.size(); p++)
                if (p != state.onDesk) hour(state.plates.get(p));
        return state.hours += hours;
    }

    private void hour(Spot[][] plate) {
        for (Spot[] line : plate)
            for (Spot spot : line)
                spot.light = spot.light + (1.0f - spot.light) * (float) state.clear / 100.0f;
    }

    int at(int row, int column, int what) {
        if (noPlace(row, column)) return NO_SUCH;
        Spot spot = desk()[row][column];
        switch (what) {
            case 0: return spot.letter;
            case 1: return spot.writer;
            case 2: return spot.promised;
            case 3: return Float.floatToIntBits(spot.light);
            case 4: return Float.floatToIntBits(ahead(desk(), row, column));
            case 5: return room(desk(), row, column) ? 1 : 0;
            case 6: return readable(spot) ? 1 : 0;
            default: return BAD_VALUE;
        }
    }

    int row(int row, int what) {
        if (noPlace(row, 0)) return NO_SUCH;
        if (what < 0 || what > 4) return BAD_VALUE;
        int[] sets = new int[4];
        StringBuilder words = new StringBuilder();
        for (int c = 0; c < 12; c++) {
            Spot spot = desk()[row][c];
            if (spot.letter != NONE) sets[0] |= 1 << c;
            if (readable(spot)) sets[1] |= 1 << c;
            if (spot.promised != NONE) sets[2] |= 1 << c;
            if (what == 3 && room(desk(), row, c)) sets[3] |= 1 << c;
            words.append(readable(spot) ? 'x' : ' ');
        }
        if (what < 4) return sets[what];
        int longest = 0;
        for (String word : words.toString().split(" ")) longest = Math.max(longest, word.length());
        return longest;
    }

    int of(int writer, int what) {
        if (noWriter(writer)) return NO_SUCH;
        int letters = 0, readable = 0, promised = 0;
        for (Spot[][] plate : state.plates)
            for (Spot[] line : plate)
                for (Spot spot : line) {
                    if (spot.letter != NONE && spot.writer == writer) letters++;
                    if (spot.writer == writer && readable(spot)) readable++;
                    if (spot.promised == writer) promised++;
                }
        int[] it = state.writers.get(writer);
        int[] answers = {it[0], letters, readable, promised, it[1], it[2]};
        return what < 0 || what > 5 ? BAD_VALUE : answers[what];
    }

    int ofPlate(int number, int what) {
        if (number < 0 || number >= state.plates.size()) return NO_SUCH;
        if (what < 0 || what > 5) return BAD_VALUE;
        Spot[][] plate = state.plates.get(number);
        int many = 0;
        float least = 1.0f, sum = 0.0f;
        for (int r = 0; r < 10; r++)
            for (int c = 0; c < 12; c++) {
                Spot spot = plate[r][c];
                if (what == 0 && spot.letter != NONE) many++;
                if (what == 1 && readable(spot)) many++;
                if (what == 2 && spot.promised != NONE) many++;
                if (what == 3 && room(plate, r, c)) many++;
                least = Math.min(least, spot.light);
                sum = sum + spot.light;
            }
        return what == 4 ? Float.floatToIntBits(least) : what == 5 ? Float.floatToIntBits(sum) : many;
    }

    int count(int what) {
        if (what < 0 || what > 9) return BAD_VALUE;
        return new int[] {state.hours, state.plates.size(), state.onDesk, state.writers.size(), state.near, state.far,
            state.read, state.clear, pad.length(), history.size()}[what];
    }

    long mean() {
        double sum = 0.0;
        if (desk() != null) for (Spot[] line : desk()) for (Spot spot : line) sum += (double) spot.light;
        return Double.doubleToLongBits(sum / 120.0);
    }

    int ifWritten(int writer, int row, int column, int what) {
        if (noWriter(writer) || noPlace(row, column)) return NO_SUCH;
        if (what < 0 || what > 2) return BAD_VALUE;
        Spot[][] then = copyOf(desk());
        force(then, writer, row, column, 7);
        if (what == 0) return spoiled(desk(), then, threshold(), row, column);
        int many = 0;
        for (int r = 0; r < 10; r++)
            for (int c = 0; c < 12; c++) {
                Spot spot = desk()[r][c];
                boolean lost = then[r][c].promised != NONE && then[r][c].light < threshold()
                        && spot.light >= threshold();
                if (what == 1 ? lost : room(then, r, c)) many++;
            }
        return many;
    }

    private int best(Spot[][] plate) {
        int best = NONE;
        float most = -1.0f;
        for (int place = 0; place < 120; place++) {
            if (!room(plate, place / 12, place % 12)) continue;
            float light = ahead(plate, place / 12, place % 12);
            if (light > most) {
                most = light;
                best = place;
            }
        }
        return best;
    }

    int bestPlace() {
        return desk() == null ? NO_SUCH : best(desk());
    }

    int fills(int writer) {
        if (noWriter(writer) || desk() == null) return NO_SUCH;
        Spot[][] plate = copyOf(desk());
        int many = 0;
        for (int best = best(plate); best != NONE; best = best(plate)) {
            force(plate, writer, best / 12, best % 12, 3);
            many++;
        }
        return many;
    }

    int whoDims(int row, int column) {
        if (noPlace(row, column)) return NO_SUCH;
        int who = NONE;
        float least = 1.0f;
        for (int w = 0; w < state.writers.size(); w++) {
            float left = 1.0f;
            for (int place = 0; place < 120; place++) {
                Spot spot = desk()[place / 12][place % 12];
                if (spot.letter != NONE && spot.writer == w)
                    left = step(left, state.writers.get(w)[0], ring(row, column, place / 12, place % 12));
            }
            if (left < least) {
                least = left;
                who = w;
            }
        }
        return who;
    }

    int readableIn(int number) {
        if (number < 0 || number >= state.plates.size()) return NO_SUCH;
        Spot[][] plate = copyOf(state.plates.get(number));
        for (int h = 0; h <= 500; h++) {
            boolean all = true;
            for (Spot[] line : plate) for (Spot spot : line) all &= spot.letter == NONE || readable(spot);
            if (all) return h;
            hour(plate);
        }
        return NONE;
    }

    int put(long characters) {
        StringBuilder text = new StringBuilder();
        boolean started = false;
        for (int shift = 56; shift >= 0; shift -= 8) {
            char code = (char) (characters >>> shift & 0xff);
            if (code == 0 && !started) continue;
            started = true;
            if (code < 33 || code > 126) return BAD_VALUE;
            text.append(code);
        }
        if (text.length() == 0) return BAD_VALUE;
        if (pad.length() + text.length() > 80) return TOO_MANY;
        pad += text;
        return pad.length();
    }

    int wipe() {
        int was = pad.length();
        pad = "";
        return was;
    }

    int fault() {
        for (int end = 1; end <= pad.length(); end++) {
            Matcher matcher = TEXT.matcher(pad.substring(0, end));
            if (!matcher.matches() && !matcher.hitEnd()) return end - 1;
        }
        return TEXT.matcher(pad).matches() ? NONE : pad.length();
    }

    int carryOut() {
        if (fault() != NONE) return BAD_TEXT;
        String text = pad;
        pad = "";
        return change(() -> {
            int done = 0;
            for (String order : text.split(";")) {
                int length = order.startsWith("w") ? order.length() - order.indexOf('=') - 1 : 1;
                for (int i = 0; i < length; i++) {
                    if (carryOut(order, i) < 0) return done;
                    done++;
                }
            }
            return done;
        });
    }

    private int carryOut(String order, int i) {
        String[] parts = order.substring(1).split("[@.=]");
        int first = parts[0].isEmpty() ? 0 : Integer.parseInt(parts[0]);
        switch (order.charAt(0)) {
            case 'n': return doPlate();
            case 'o': return doLay(first);
            case 'k': return doWriter(first);
            case 'h': return doPass(first);
            case 'x': return doRub(Integer.parseInt(parts[1]), Integer.parseInt(parts[2]));
            case 'p': return doPromise(first, Integer.parseInt(parts[1]), Integer.parseInt(parts[2]));
            default: return doWrite(first, Integer.parseInt(parts[1]), Integer.parseInt(parts[2]) + i,
                    parts[3].charAt(i) - 'a');
        }
    }

    int undo() {
        if (history.isEmpty()) return NOT_POSSIBLE;
        state = history.removeLast();
        return history.size();
    }

    int save(int slot) {
        if (slot < 0 || slot > 1) return BAD_VALUE;
        slots[slot] = state.copy();
        return state.plates.size();
    }

    int restore(int slot) {
        if (slot < 0 || slot > 1) return BAD_VALUE;
        if (slots[slot] == null) return NOT_POSSIBLE;
        return change(() -> {
            state = slots[slot].copy();
            return state.plates.size();
        });
    }
}
