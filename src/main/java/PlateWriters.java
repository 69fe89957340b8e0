import java.util.Arrays;

/** Writers on glass plates whose writing clouds the places around. */
public final class PlateWriters {
    public static final int NO_SUCH = -1, BAD_VALUE = -2, BAD_TEXT = -3, TOO_MANY = -4, NOT_POSSIBLE = -5, NONE = -6;
    public static final int NEAR = 0, FAR = 1, READ = 2, CLEAR = 3;

    private static final int ROWS = 10, COLUMNS = 12, PLACES = ROWS * COLUMNS;
    private static final int MOST_PLATES = 4, MOST_WRITERS = 5, SLOTS = 2;
    private static final int HARDEST = 5, LETTERS = 26;
    private static final int MOST_HOURS_AT_ONCE = 48, MOST_HOURS = 9999, READABLE_WITHIN = 500;
    private static final int[] LEAST_OF_SETTING = {0, 0, 1, 0};
    private static final int[] MOST_OF_SETTING = {18, 9, 99, 50};

    private final Desk now = new Desk();
    private final History history = new History();
    private final Desk[] slots = new Desk[SLOTS];
    private final boolean[] saved = new boolean[SLOTS];
    private final Orders orders = new Orders();
    private final Trial trial = new Trial();

    public PlateWriters() {
        for (int slot = 0; slot < SLOTS; slot++) {
            slots[slot] = new Desk();
        }
    }

    // ---- changes

    public int set(int setting, int value) {
        history.prepare(now);
        return history.keepUnlessError(now.change(setting, value));
    }

    public int plate() {
        history.prepare(now);
        return history.keepUnlessError(now.addPlate());
    }

    public int lay(int plate) {
        history.prepare(now);
        return history.keepUnlessError(now.layPlate(plate));
    }

    public int writer(int press) {
        history.prepare(now);
        return history.keepUnlessError(now.addWriter(press));
    }

    public int write(int writer, int row, int column, int letter) {
        history.prepare(now);
        return history.keepUnlessError(now.writeLetter(writer, row, column, letter));
    }

    public int promise(int writer, int row, int column) {
        history.prepare(now);
        return history.keepUnlessError(now.promisePlace(writer, row, column));
    }

    public int takeBack(int row, int column) {
        history.prepare(now);
        return history.keepUnlessError(now.takePromiseBack(row, column));
    }

    public int rub(int row, int column) {
        history.prepare(now);
        return history.keepUnlessError(now.rubLetter(row, column));
    }

    public int pass(int hours) {
        history.prepare(now);
        return history.keepUnlessError(now.passHours(hours));
    }

    // ---- what there is (of the plate on the desk, if nothing else is told)

    public int at(int row, int column, int what) {
        Glass glass = now.glassOnDesk();
        if (glass == null || !isPlace(row, column)) {
            return NO_SUCH;
        }
        int place = row * COLUMNS + column;
        switch (what) {
            case 0: return glass.letters[place];
            case 1: return glass.writers[place];
            case 2: return glass.promised[place];
            case 3: return bitsOfFloat(glass.light[place]);
            case 4: return bitsOfFloat(now.lightAhead(glass, place));
            case 5: return now.hasRoom(glass, place) ? 1 : 0;
            case 6: return now.canBeRead(glass, place) ? 1 : 0;
            default: return BAD_VALUE;
        }
    }

    public int row(int row, int what) {
        Glass glass = now.glassOnDesk();
        if (glass == null || row < 0 || row >= ROWS) {
            return NO_SUCH;
        }
        switch (what) {
            case 0:
            case 1:
            case 2:
            case 3: return columnsThat(glass, row, what);
            case 4: return longestRun(columnsThat(glass, row, 1));
            default: return BAD_VALUE;
        }
    }

    public int of(int writer, int what) {
        if (!now.isWriter(writer)) {
            return NO_SUCH;
        }
        switch (what) {
            case 0: return now.press[writer];
            case 1:
            case 2:
            case 3: return now.placesOfWriter(writer, what);
            case 4: return now.written[writer];
            case 5: return now.spoiled[writer];
            default: return BAD_VALUE;
        }
    }

    public int ofPlate(int plate, int what) {
        if (!now.isPlate(plate)) {
            return NO_SUCH;
        }
        Glass glass = now.glasses[plate];
        switch (what) {
            case 0:
            case 1:
            case 2:
            case 3: return now.placesThat(glass, what);
            case 4: return bitsOfFloat(glass.leastLight());
            case 5: return bitsOfFloat(glass.sumOfLight());
            default: return BAD_VALUE;
        }
    }

    public int count(int what) {
        switch (what) {
            case 0: return now.hours;
            case 1: return now.plates;
            case 2: return now.onDesk;
            case 3: return now.people;
            case 4:
            case 5:
            case 6:
            case 7: return now.settings[what - 4];
            case 8: return orders.pad.length;
            case 9: return history.kept;
            default: return BAD_VALUE;
        }
    }

    public long mean() {
        Glass glass = now.glassOnDesk();
        if (glass == null) {
            return 0L;
        }
        double sum = 0.0;
        for (int place = 0; place < PLACES; place++) {
            sum += (double) glass.light[place];
        }
        return bitsOfMean(sum / 120.0);
    }

    // ---- what if; nothing changes (the bound of hours does not matter)

    public int ifWritten(int writer, int row, int column, int what) {
        Glass glass = now.glassOnDesk();
        if (!now.isWriter(writer) || glass == null || !isPlace(row, column)) {
            return NO_SUCH;
        }
        int place = row * COLUMNS + column;
        switch (what) {
            case 0: return trial.lettersSpoiled(now, glass, writer, place);
            case 1: return trial.promisesSpoiled(now, glass, writer, place);
            case 2: return trial.roomLeft(now, glass, writer, place);
            default: return BAD_VALUE;
        }
    }

    public int bestPlace() {
        Glass glass = now.glassOnDesk();
        return glass == null ? NO_SUCH : trial.brightestOf(now, glass);
    }

    public int fills(int writer) {
        Glass glass = now.glassOnDesk();
        return !now.isWriter(writer) || glass == null ? NO_SUCH : trial.lettersUntilFull(now, glass, writer);
    }

    public int whoDims(int row, int column) {
        Glass glass = now.glassOnDesk();
        if (glass == null || !isPlace(row, column)) {
            return NO_SUCH;
        }
        int who = NONE;
        float least = 1.0f;
        for (int writer = 0; writer < now.people; writer++) {
            float left = now.lightLeftBy(glass, writer, row * COLUMNS + column);
            if (left < least) {
                least = left;
                who = writer;
            }
        }
        return who;
    }

    public int readableIn(int plate) {
        return now.isPlate(plate) ? now.hoursUntilReadable(now.glasses[plate]) : NO_SUCH;
    }

    // ---- texts

    public int put(long characters) {
        return orders.pad.append(characters);
    }

    public int wipe() {
        return orders.pad.empty();
    }

    public int fault() {
        return orders.readPad();
    }

    public int carryOut() {
        if (orders.readPad() != NONE) {
            return BAD_TEXT;
        }
        history.prepare(now);
        int done = 0;
        while (done < orders.size && obey(done) >= 0) {
            done++;
        }
        orders.pad.empty();
        return history.keepUnlessError(done);
    }

    // ---- undo, saving

    public int undo() {
        return history.takeBackInto(now);
    }

    public int save(int slot) {
        if (slot < 0 || slot >= SLOTS) {
            return BAD_VALUE;
        }
        slots[slot].copyFrom(now);
        saved[slot] = true;
        return now.plates;
    }

    public int restore(int slot) {
        if (slot < 0 || slot >= SLOTS) {
            return BAD_VALUE;
        }
        if (!saved[slot]) {
            return NOT_POSSIBLE;
        }
        history.prepare(now);
        now.copyFrom(slots[slot]);
        return history.keepUnlessError(now.plates);
    }

    // ---- helpers

    private static boolean isPlace(int row, int column) {
        return row >= 0 && row < ROWS && column >= 0 && column < COLUMNS;
    }

    private static int firstNear(int line) {
        return Math.max(line - 2, 0);
    }

    private static int lastNear(int line, int lines) {
        return Math.min(line + 2, lines - 1);
    }

    private int columnsThat(Glass glass, int row, int what) {
        int set = 0;
        for (int column = 0; column < COLUMNS; column++) {
            if (now.placeIs(glass, row * COLUMNS + column, what)) {
                set |= 1 << column;
            }
        }
        return set;
    }

    private static int longestRun(int columns) {
        int longest = 0;
        int run = 0;
        for (int column = 0; column < COLUMNS; column++) {
            run = (columns >> column & 1) == 1 ? run + 1 : 0;
            longest = Math.max(longest, run);
        }
        return longest;
    }

    private int obey(int order) {
        int first = orders.firsts[order];
        int row = orders.rows[order];
        int column = orders.columns[order];
        switch (orders.kinds[order]) {
            case 'n': return now.addPlate();
            case 'o': return now.layPlate(first);
            case 'k': return now.addWriter(first);
            case 'w': return now.writeLetter(first, row, column, orders.letters[order]);
            case 'p': return now.promisePlace(first, row, column);
            case 'x': return now.rubLetter(row, column);
            case 'h': return now.passHours(first);
            default: return BAD_TEXT;
        }
    }

    // The bits are found by arithmetic, as the library that tells them is none of those that LANGUAGE.md lists.
    // Light is never below 0, and a mean never above 1; halving and doubling a double is exact, so no bit is lost.

    private static int bitsOfFloat(float value) {
        double rest = (double) value;
        int exponent = 0;
        while (rest < 1.0 && exponent > -126) {
            rest *= 2.0;
            exponent--;
        }
        while (rest >= 2.0 && exponent < 127) {
            rest /= 2.0;
            exponent++;
        }
        if (rest < 1.0) {
            return (int) (rest * 8388608.0);
        }
        return (exponent + 127) << 23 | (int) ((rest - 1.0) * 8388608.0);
    }

    private static long bitsOfMean(double value) {
        double rest = value;
        int exponent = 0;
        while (rest < 1.0 && exponent > -1022) {
            rest *= 2.0;
            exponent--;
        }
        if (rest < 1.0) {
            return (long) (rest * 4503599627370496.0);
        }
        return (long) (exponent + 1023) << 52 | (long) ((rest - 1.0) * 4503599627370496.0);
    }

    /** A plate: its places, row by row. */
    private static final class Glass {
        final float[] light = new float[PLACES];
        final int[] letters = new int[PLACES];
        final int[] writers = new int[PLACES];
        final int[] promised = new int[PLACES];

        void makeNew() {
            Arrays.fill(light, 1.0f);
            Arrays.fill(letters, NONE);
            Arrays.fill(writers, NONE);
            Arrays.fill(promised, NONE);
        }

        void copyFrom(Glass other) {
            System.arraycopy(other.light, 0, light, 0, PLACES);
            System.arraycopy(other.letters, 0, letters, 0, PLACES);
            System.arraycopy(other.writers, 0, writers, 0, PLACES);
            System.arraycopy(other.promised, 0, promised, 0, PLACES);
        }

        boolean isFree(int place) {
            return letters[place] == NONE && promised[place] == NONE;
        }

        int promisedPlaces() {
            int places = 0;
            for (int place = 0; place < PLACES; place++) {
                places += promised[place] != NONE ? 1 : 0;
            }
            return places;
        }

        float leastLight() {
            float least = light[0];
            for (int place = 1; place < PLACES; place++) {
                least = light[place] < least ? light[place] : least;
            }
            return least;
        }

        float sumOfLight() {
            float sum = 0.0f;
            for (int place = 0; place < PLACES; place++) {
                sum += light[place];
            }
            return sum;
        }
    }

    /** All that undo() takes back and that a slot saves. */
    private static final class Desk {
        final int[] settings = {6, 2, 40, 10};
        final int[] press = new int[MOST_WRITERS];
        final int[] written = new int[MOST_WRITERS];
        final int[] spoiled = new int[MOST_WRITERS];
        final Glass[] glasses = new Glass[MOST_PLATES];
        int hours = 0;
        int plates = 0;
        int onDesk = NONE;
        int people = 0;

        Desk() {
            for (int plate = 0; plate < MOST_PLATES; plate++) {
                glasses[plate] = new Glass();
            }
        }

        void copyFrom(Desk other) {
            System.arraycopy(other.settings, 0, settings, 0, settings.length);
            System.arraycopy(other.press, 0, press, 0, MOST_WRITERS);
            System.arraycopy(other.written, 0, written, 0, MOST_WRITERS);
            System.arraycopy(other.spoiled, 0, spoiled, 0, MOST_WRITERS);
            hours = other.hours;
            plates = other.plates;
            onDesk = other.onDesk;
            people = other.people;
            for (int plate = 0; plate < plates; plate++) {
                glasses[plate].copyFrom(other.glasses[plate]);
            }
        }

        boolean isPlate(int plate) {
            return plate >= 0 && plate < plates;
        }

        boolean isWriter(int writer) {
            return writer >= 0 && writer < people;
        }

        Glass glassOnDesk() {
            return isPlate(onDesk) ? glasses[onDesk] : null;
        }

        // ---- the changes: each answers what the face answers, and changes nothing when that is an error

        int change(int setting, int value) {
            if (setting < NEAR || setting > CLEAR) {
                return BAD_VALUE;
            }
            if (value < LEAST_OF_SETTING[setting] || value > MOST_OF_SETTING[setting]) {
                return BAD_VALUE;
            }
            int previous = settings[setting];
            settings[setting] = value;
            return previous;
        }

        int addPlate() {
            if (plates >= MOST_PLATES) {
                return TOO_MANY;
            }
            glasses[plates].makeNew();
            onDesk = plates;
            plates++;
            return onDesk;
        }

        int layPlate(int plate) {
            if (!isPlate(plate)) {
                return NO_SUCH;
            }
            if (plate == onDesk) {
                return NOT_POSSIBLE;
            }
            int previous = onDesk;
            onDesk = plate;
            return previous;
        }

        int addWriter(int hard) {
            if (hard < 1 || hard > HARDEST) {
                return BAD_VALUE;
            }
            if (people >= MOST_WRITERS) {
                return TOO_MANY;
            }
            press[people] = hard;
            written[people] = 0;
            spoiled[people] = 0;
            people++;
            return people - 1;
        }

        int writeLetter(int writer, int row, int column, int letter) {
            Glass glass = glassOnDesk();
            if (!isWriter(writer) || glass == null || !isPlace(row, column)) {
                return NO_SUCH;
            }
            if (letter < 0 || letter >= LETTERS) {
                return BAD_VALUE;
            }
            int place = row * COLUMNS + column;
            boolean taken = glass.letters[place] != NONE
                    || glass.promised[place] != NONE && glass.promised[place] != writer;
            if (taken || !isEnough(glass.light[place])) {
                return NOT_POSSIBLE;
            }
            int lost = mark(glass, writer, place, letter);
            written[writer]++;
            spoiled[writer] += lost;
            return lost;
        }

        int promisePlace(int writer, int row, int column) {
            Glass glass = glassOnDesk();
            if (!isWriter(writer) || glass == null || !isPlace(row, column)) {
                return NO_SUCH;
            }
            int place = row * COLUMNS + column;
            if (!hasRoom(glass, place)) {
                return NOT_POSSIBLE;
            }
            glass.promised[place] = writer;
            return glass.promisedPlaces();
        }

        int takePromiseBack(int row, int column) {
            Glass glass = glassOnDesk();
            if (glass == null || !isPlace(row, column)) {
                return NO_SUCH;
            }
            int place = row * COLUMNS + column;
            int writer = glass.promised[place];
            if (writer == NONE) {
                return NOT_POSSIBLE;
            }
            glass.promised[place] = NONE;
            return writer;
        }

        int rubLetter(int row, int column) {
            Glass glass = glassOnDesk();
            if (glass == null || !isPlace(row, column)) {
                return NO_SUCH;
            }
            int place = row * COLUMNS + column;
            int letter = glass.letters[place];
            if (letter == NONE) {
                return NOT_POSSIBLE;
            }
            glass.letters[place] = NONE;
            glass.writers[place] = NONE;
            glass.light[place] = (glass.light[place] + 1.0f) / 2.0f;
            return letter;
        }

        int passHours(int more) {
            if (more < 1 || more > MOST_HOURS_AT_ONCE) {
                return BAD_VALUE;
            }
            if (hours + more > MOST_HOURS) {
                return NOT_POSSIBLE;
            }
            for (int plate = 0; plate < plates; plate++) {
                if (plate != onDesk) {
                    clearFor(glasses[plate], more);
                }
            }
            hours += more;
            return hours;
        }

        // ---- light

        boolean isEnough(float light) {
            return light >= (float) settings[READ] / 100.0f;
        }

        float cleared(float light) {
            return light + (1.0f - light) * (float) settings[CLEAR] / 100.0f;
        }

        // Light that an hour leaves as it is, mostly full light, stays so in all that follow.
        private float clearedFor(float light, int more) {
            float then = light;
            for (int hour = 0; hour < more; hour++) {
                float next = cleared(then);
                if (next == then) {
                    return then;
                }
                then = next;
            }
            return then;
        }

        private void clearFor(Glass glass, int more) {
            for (int place = 0; place < PLACES; place++) {
                glass.light[place] = clearedFor(glass.light[place], more);
            }
        }

        // Even a loss of 0 is reckoned: light * 100.0f / 100.0f may differ from light in its last bit.
        float dimmed(float light, int writer, int distance) {
            if (writer < 0 || writer >= MOST_WRITERS || distance < 1 || distance > 2) {
                return light;
            }
            int loss = settings[distance == 1 ? NEAR : FAR] * press[writer];
            return light * (float) (100 - loss) / 100.0f;
        }

        // Writes without asking whether it may be, as ifWritten() and fills() want it.
        int mark(Glass glass, int writer, int place, int letter) {
            int row = place / COLUMNS;
            int column = place % COLUMNS;
            int lost = 0;
            for (int r = firstNear(row); r <= lastNear(row, ROWS); r++) {
                for (int c = firstNear(column); c <= lastNear(column, COLUMNS); c++) {
                    int other = r * COLUMNS + c;
                    boolean could = canBeRead(glass, other);
                    glass.light[other] = dimmed(glass.light[other], writer, distance(place, other));
                    if (could && !canBeRead(glass, other)) {
                        lost++;
                    }
                }
            }
            glass.letters[place] = letter;
            glass.writers[place] = writer;
            glass.promised[place] = NONE;
            return lost;
        }

        float lightAhead(Glass glass, int place) {
            int row = place / COLUMNS;
            int column = place % COLUMNS;
            float light = glass.light[place];
            for (int r = firstNear(row); r <= lastNear(row, ROWS); r++) {
                for (int c = firstNear(column); c <= lastNear(column, COLUMNS); c++) {
                    int other = r * COLUMNS + c;
                    if (glass.promised[other] != NONE) {
                        light = dimmed(light, glass.promised[other], distance(place, other));
                    }
                }
            }
            return light;
        }

        float lightLeftBy(Glass glass, int writer, int place) {
            float light = 1.0f;
            for (int other = 0; other < PLACES; other++) {
                if (glass.letters[other] != NONE && glass.writers[other] == writer) {
                    light = dimmed(light, writer, distance(place, other));
                }
            }
            return light;
        }

        // Clearing never takes light away, so the plate can be read as soon as its slowest letter can.
        int hoursUntilReadable(Glass glass) {
            int most = 0;
            for (int place = 0; place < PLACES; place++) {
                if (glass.letters[place] != NONE) {
                    most = Math.max(most, hoursUntilEnough(glass.light[place]));
                }
            }
            return most > READABLE_WITHIN ? NONE : most;
        }

        private int hoursUntilEnough(float light) {
            float then = light;
            int hour = 0;
            while (hour <= READABLE_WITHIN && !isEnough(then)) {
                then = cleared(then);
                hour++;
            }
            return hour;
        }

        // ---- places: what is 0 for a letter, 1 for one that can be read, 2 for promised, 3 for room

        boolean canBeRead(Glass glass, int place) {
            return glass.letters[place] != NONE && isEnough(glass.light[place]);
        }

        boolean hasRoom(Glass glass, int place) {
            return glass.isFree(place) && isEnough(lightAhead(glass, place));
        }

        boolean placeIs(Glass glass, int place, int what) {
            switch (what) {
                case 0: return glass.letters[place] != NONE;
                case 1: return canBeRead(glass, place);
                case 2: return glass.promised[place] != NONE;
                default: return hasRoom(glass, place);
            }
        }

        int placesThat(Glass glass, int what) {
            int places = 0;
            for (int place = 0; place < PLACES; place++) {
                if (placeIs(glass, place, what)) {
                    places++;
                }
            }
            return places;
        }

        // what is 1 for letters, 2 for those that can be read, 3 for promised places
        int placesOfWriter(int writer, int what) {
            int places = 0;
            for (int plate = 0; plate < plates; plate++) {
                Glass glass = glasses[plate];
                for (int place = 0; place < PLACES; place++) {
                    int whose = what == 3 ? glass.promised[place] : glass.writers[place];
                    if (whose == writer && placeIs(glass, place, what - 1)) {
                        places++;
                    }
                }
            }
            return places;
        }

        private static int distance(int place, int other) {
            int rows = Math.abs(place / COLUMNS - other / COLUMNS);
            int columns = Math.abs(place % COLUMNS - other % COLUMNS);
            return Math.max(rows, columns);
        }
    }

    /** What would be if letters were written: on a plate of its own, made once, as each call may need one. */
    private static final class Trial {
        final Glass tried = new Glass();
        final float[] ahead = new float[PLACES];

        int lettersSpoiled(Desk desk, Glass glass, int writer, int place) {
            tried.copyFrom(glass);
            return desk.mark(tried, writer, place, 0);
        }

        int promisesSpoiled(Desk desk, Glass glass, int writer, int place) {
            tried.copyFrom(glass);
            desk.mark(tried, writer, place, 0);
            int lost = 0;
            for (int other = 0; other < PLACES; other++) {
                boolean promised = other != place && glass.promised[other] != NONE;
                if (promised && desk.isEnough(glass.light[other]) && !desk.isEnough(tried.light[other])) {
                    lost++;
                }
            }
            return lost;
        }

        int roomLeft(Desk desk, Glass glass, int writer, int place) {
            tried.copyFrom(glass);
            desk.mark(tried, writer, place, 0);
            return desk.placesThat(tried, 3);
        }

        int brightestOf(Desk desk, Glass glass) {
            tried.copyFrom(glass);
            lookAhead(desk, 0, PLACES - 1);
            return brightest(desk);
        }

        int lettersUntilFull(Desk desk, Glass glass, int writer) {
            tried.copyFrom(glass);
            lookAhead(desk, 0, PLACES - 1);
            int best = brightest(desk);
            int letters = 0;
            while (letters < PLACES && best != NONE) {
                desk.mark(tried, writer, best, 0);
                letters++;
                lookAround(desk, best);
                best = brightest(desk);
            }
            return letters;
        }

        private void lookAhead(Desk desk, int first, int last) {
            for (int place = first; place <= last; place++) {
                if (tried.isFree(place)) {
                    ahead[place] = desk.lightAhead(tried, place);
                }
            }
        }

        // A letter at a free place ends no promise, so only its own rings change.
        private void lookAround(Desk desk, int place) {
            int row = place / COLUMNS;
            int column = place % COLUMNS;
            for (int r = firstNear(row); r <= lastNear(row, ROWS); r++) {
                lookAhead(desk, r * COLUMNS + firstNear(column), r * COLUMNS + lastNear(column, COLUMNS));
            }
        }

        private int brightest(Desk desk) {
            int best = NONE;
            float most = 0.0f;
            for (int place = 0; place < PLACES; place++) {
                if (tried.isFree(place) && desk.isEnough(ahead[place]) && ahead[place] > most) {
                    most = ahead[place];
                    best = place;
                }
            }
            return best;
        }
    }

    /** The states before the latest changes; one more than can be undone, for the change that is only tried yet. */
    private static final class History {
        static final int MOST = 6, ALL = MOST + 1;
        final Desk[] states = new Desk[ALL];
        int next = 0;
        int kept = 0;

        History() {
            for (int state = 0; state < ALL; state++) {
                states[state] = new Desk();
            }
        }

        void prepare(Desk desk) {
            states[next].copyFrom(desk);
        }

        // No change answers below 0 but by an error.
        int keepUnlessError(int answer) {
            if (answer >= 0) {
                next = (next + 1) % ALL;
                kept = Math.min(kept + 1, MOST);
            }
            return answer;
        }

        int takeBackInto(Desk desk) {
            if (kept == 0) {
                return NOT_POSSIBLE;
            }
            next = (next + ALL - 1) % ALL;
            kept--;
            desk.copyFrom(states[next]);
            return kept;
        }
    }

    /** The pad and its characters. */
    private static final class Pad {
        static final int LONGEST = 80;
        final char[] signs = new char[LONGEST];
        int length = 0;

        int append(long characters) {
            int more = charactersIn(characters);
            if (more < 1) {
                return BAD_VALUE;
            }
            if (length + more > LONGEST) {
                return TOO_MANY;
            }
            for (int i = more - 1; i >= 0; i--) {
                signs[length] = (char) codeIn(characters, i);
                length++;
            }
            return length;
        }

        // 0 if they are not as put() asks
        private static int charactersIn(long characters) {
            int more = 0;
            while (more < 8 && codeIn(characters, more) != 0) {
                int code = codeIn(characters, more);
                if (code < 33 || code > 126) {
                    return 0;
                }
                more++;
            }
            boolean straySigns = more < 8 && characters >>> (8 * more) != 0L;
            return straySigns ? 0 : more;
        }

        private static int codeIn(long characters, int fromTheLast) {
            return (int) (characters >>> (8 * fromTheLast) & 255L);
        }

        int empty() {
            int previous = length;
            length = 0;
            return previous;
        }
    }

    /** The orders of the pad's text, read from left to right; each letter of a "w" is one. */
    private static final class Orders {
        final Pad pad = new Pad();
        final char[] kinds = new char[Pad.LONGEST];
        final int[] firsts = new int[Pad.LONGEST];
        final int[] rows = new int[Pad.LONGEST];
        final int[] columns = new int[Pad.LONGEST];
        final int[] letters = new int[Pad.LONGEST];
        int size = 0;
        private int next = 0;
        private int number = 0;
        private int first = 0;
        private int row = 0;
        private int column = 0;

        // Whatever cannot read on leaves next at the character that cannot stand there: that is the fault.
        int readPad() {
            size = 0;
            next = 0;
            for (int orders = 0; orders < Pad.LONGEST; orders++) {
                if (!readOrder()) {
                    return next;
                }
                if (next >= pad.length) {
                    return NONE;
                }
                if (!reads(';')) {
                    return next;
                }
            }
            return next;
        }

        private boolean readOrder() {
            char kind = look();
            switch (kind) {
                case 'n': return reads(kind) && add(kind, 0);
                case 'o':
                case 'k': return reads(kind) && readFirstDigit() && add(kind, 0);
                case 'w': return reads(kind) && readFirstDigit() && readPlace() && reads('=') && readLetters();
                case 'p': return reads(kind) && readFirstDigit() && readPlace() && add(kind, 0);
                case 'x': return reads(kind) && readPlace() && add(kind, 0);
                case 'h': return reads(kind) && readFirstNumber() && add(kind, 0);
                default: return false;
            }
        }

        private boolean readFirstDigit() {
            if (!isDigit(look())) {
                return false;
            }
            first = look() - '0';
            next++;
            return true;
        }

        private boolean readFirstNumber() {
            boolean fine = readNumber();
            first = number;
            return fine;
        }

        private boolean readPlace() {
            if (!reads('@') || !readNumber()) {
                return false;
            }
            row = number;
            if (!reads('.') || !readNumber()) {
                return false;
            }
            column = number;
            return true;
        }

        // A third digit, or one behind a leading 0, is left for what comes next, where no digit can stand.
        private boolean readNumber() {
            if (!isDigit(look())) {
                return false;
            }
            number = look() - '0';
            next++;
            if (number > 0 && isDigit(look())) {
                number = 10 * number + look() - '0';
                next++;
            }
            return true;
        }

        private boolean readLetters() {
            if (!isLetter(look())) {
                return false;
            }
            while (next < pad.length && isLetter(look())) {
                add('w', look() - 'a');
                column++;
                next++;
            }
            return true;
        }

        private boolean reads(char sign) {
            if (look() != sign) {
                return false;
            }
            next++;
            return true;
        }

        // 0 at the end: no character of the pad has that code
        private char look() {
            return next < pad.length ? pad.signs[next] : (char) 0;
        }

        // Each order has a character of its own, so there is always space for it.
        private boolean add(char kind, int letter) {
            if (size < Pad.LONGEST) {
                kinds[size] = kind;
                firsts[size] = first;
                rows[size] = row;
                columns[size] = column;
                letters[size] = letter;
                size++;
            }
            return true;
        }

        private static boolean isDigit(char sign) {
            return sign >= '0' && sign <= '9';
        }

        private static boolean isLetter(char sign) {
            return sign >= 'a' && sign <= 'z';
        }
    }
}
