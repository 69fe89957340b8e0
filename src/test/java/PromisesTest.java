/** Each promise of the document, with answers reckoned by hand from its words. */
public final class PromisesTest extends Checks {

    /** What there is, as one number, but not how much can be undone; few calls, as an object bears only 512. */
    private static long stateOf(PlateWriters x) {
        long all = x.mean();
        for (int what = 0; what < 9; what++) all = 31 * all + x.count(what);
        for (int row = 0; row < 10; row++)
            for (int what = 0; what < 4; what++) all = 31 * all + x.row(row, what);
        for (int who = 0; who < 5; who++)
            for (int what = 0; what < 6; what++) all = 31 * all + x.of(who, what);
        for (int plate = 0; plate < 4; plate++)
            for (int what = 0; what < 6; what++) all = 31 * all + x.ofPlate(plate, what);
        return all;
    }

    private static long all(PlateWriters x) {
        return 31 * stateOf(x) + x.count(9);
    }

    private static void promise1() {
        PlateWriters x = new PlateWriters();
        int[] counts = {0, 0, NONE, 0, 6, 2, 40, 10, 0, 0};
        for (int what = 0; what < 10; what++) due("count(" + what + ")", x.count(what), counts[what]);
        due("at(0, 0, 0)", x.at(0, 0, 0), NO_SUCH);
        due("row(0, 0)", x.row(0, 0), NO_SUCH);
        due("of(0, 0)", x.of(0, 0), NO_SUCH);
        due("ofPlate(0, 0)", x.ofPlate(0, 0), NO_SUCH);
        due("mean()", x.mean(), 0L);
        due("undo()", x.undo(), NOT_POSSIBLE);
        due("restore(0)", x.restore(0), NOT_POSSIBLE);
        due("another object's plate()", new PlateWriters().plate(), 0);
        due("count(1)", x.count(1), 0);
    }

    private static void promise2() {
        int[] first = {6, 2, 40, 10}, least = {0, 0, 1, 0}, most = {18, 9, 99, 50};
        for (int s = 0; s < 4; s++) {
            PlateWriters x = desk(1);
            long before = all(x);
            due("set(" + s + ", too little)", x.set(s, least[s] - 1), BAD_VALUE);
            due("set(" + s + ", too much)", x.set(s, most[s] + 1), BAD_VALUE);
            due("set(" + s + ", MIN)", x.set(s, MIN), BAD_VALUE);
            due("set(" + s + ", MAX)", x.set(s, MAX), BAD_VALUE);
            due("nothing changed", all(x), before);
            due("set(" + s + ", least)", x.set(s, least[s]), first[s]);
            due("set(" + s + ", most)", x.set(s, most[s]), least[s]);
            due("set(" + s + ", most) again", x.set(s, most[s]), most[s]);
            due("count(" + (4 + s) + ")", x.count(4 + s), most[s]);
        }
        for (int s : new int[] {-1, 4, MIN, MAX}) due("set(" + s + ", 5)", desk(1).set(s, 5), BAD_VALUE);
    }

    private static void promise3() {
        PlateWriters x = new PlateWriters();
        for (int plate = 0; plate < 4; plate++) {
            due("plate()", x.plate(), plate);
            due("count(2)", x.count(2), plate);
            light("at(9, 11, 3)", x.at(9, 11, 3), 1.0f);
            due("at(9, 11, 0)", x.at(9, 11, 0), NONE);
            due("at(9, 11, 1)", x.at(9, 11, 1), NONE);
            due("at(9, 11, 2)", x.at(9, 11, 2), NONE);
        }
        x.lay(1);
        long before = all(x);
        due("plate()", x.plate(), TOO_MANY);
        due("nothing changed", all(x), before);
        x = desk(3);
        x.write(0, 0, 0, 1);
        x.undo();
        x.undo();
        x.undo();
        x.plate();
        x.writer(2);
        due("at(0, 0, 0) of a plate that comes anew", x.at(0, 0, 0), NONE);
        light("at(0, 1, 3) of a plate that comes anew", x.at(0, 1, 3), 1.0f);
        due("of(0, 4) of a writer who comes anew", x.of(0, 4), 0);
    }

    private static void promise4() {
        PlateWriters x = new PlateWriters();
        due("lay(0)", x.lay(0), NO_SUCH);
        x.plate();
        x.plate();
        x.plate();
        due("lay(2)", x.lay(2), NOT_POSSIBLE);
        due("lay(3)", x.lay(3), NO_SUCH);
        due("lay(-1)", x.lay(-1), NO_SUCH);
        due("lay(MAX)", x.lay(MAX), NO_SUCH);
        due("count(9)", x.count(9), 3);
        due("lay(0)", x.lay(0), 2);
        due("lay(1)", x.lay(1), 0);
        due("count(2)", x.count(2), 1);
    }

    private static void promise5() {
        PlateWriters x = new PlateWriters();
        for (int press : new int[] {0, 6, -1, MIN, MAX}) due("writer(" + press + ")", x.writer(press), BAD_VALUE);
        for (int who = 0; who < 5; who++) {
            due("writer(" + (who + 1) + ")", x.writer(who + 1), who);
            due("of(" + who + ", 0)", x.of(who, 0), who + 1);
        }
        due("writer(0)", x.writer(0), BAD_VALUE);
        due("writer(1)", x.writer(1), TOO_MANY);
        due("count(3)", x.count(3), 5);
        due("count(9)", x.count(9), 5);
    }

    private static void promise6() {
        PlateWriters x = desk(5, 1);
        due("write(0, 5, 5, 0)", x.write(0, 5, 5, 0), 0);
        for (int row = 3; row <= 7; row++)
            for (int column = 3; column <= 7; column++) {
                int far = Math.max(Math.abs(row - 5), Math.abs(column - 5));
                light("at(" + row + ", " + column + ", 3)", x.at(row, column, 3),
                        far == 0 ? 1.0f : dim(1.0f, far == 1 ? 30 : 10));
            }
        light("at(2, 5, 3)", x.at(2, 5, 3), 1.0f);
        light("at(5, 2, 3)", x.at(5, 2, 3), 1.0f);
        light("at(8, 5, 3)", x.at(8, 5, 3), 1.0f);
        light("at(5, 8, 3)", x.at(5, 8, 3), 1.0f);
        due("write(1, 5, 6, 25)", x.write(1, 5, 6, 25), 0);
        light("at(4, 5, 3)", x.at(4, 5, 3), dim(dim(1.0f, 30), 6));
        light("at(5, 4, 3)", x.at(5, 4, 3), dim(dim(1.0f, 30), 2));
        x = desk(5);
        x.write(0, 0, 0, 0);
        light("at(0, 11, 3): a ring ends at the edge", x.at(0, 11, 3), 1.0f);
        light("at(1, 11, 3)", x.at(1, 11, 3), 1.0f);
        x.write(0, 4, 11, 0);
        light("at(5, 0, 3)", x.at(5, 0, 3), 1.0f);
        lossOfNothing();
        writeCountsAndErrors();
        lightVanishes();
    }

    /** A step with a loss of 0 is a step also: it may change the last bit. */
    private static void lossOfNothing() {
        PlateWriters x = desk(1);
        x.set(0, 7);
        x.write(0, 0, 1, 0);
        x.write(0, 0, 0, 0);
        x.rub(0, 1);
        x.set(0, 0);
        float light = (dim(1.0f, 7) + 1.0f) / 2.0f;
        due("a step with a loss of 0 changes something", dim(light, 0) == light ? 1 : 0, 0);
        light("at(0, 1, 3)", x.at(0, 1, 3), light);
        x.promise(0, 0, 2);
        light("at(0, 1, 4)", x.at(0, 1, 4), dim(light, 0));
        x.write(0, 0, 2, 0);
        light("at(0, 1, 3) behind a loss of 0", x.at(0, 1, 3), dim(light, 0));
    }

    private static void writeCountsAndErrors() {
        PlateWriters x = desk(1, 5);
        x.set(0, 18);
        x.set(1, 9);
        x.write(0, 0, 0, 0);
        x.write(0, 0, 3, 0);
        x.write(0, 3, 0, 0);
        x.set(2, 56);
        due("write(1, 1, 1, 1) with READ 56", x.write(1, 1, 1, 1), 3);
        x.undo();
        x.set(2, 55);
        due("write(1, 1, 1, 1) with READ 55", x.write(1, 1, 1, 1), 1);
        due("of(1, 5)", x.of(1, 5), 1);
        due("of(0, 5)", x.of(0, 5), 0);
        due("of(1, 4)", x.of(1, 4), 1);
        x = desk(5, 1);
        x.promise(1, 4, 4);
        x.write(0, 2, 2, 0);
        long before = all(x);
        int[][] none = {{2, 0, 0, 99}, {-1, 0, 0, 0}, {MAX, 0, 0, 0}, {0, -1, 0, 0}, {0, 10, 0, 99}, {0, 0, -1, 0},
            {0, 0, 12, 0}, {0, MIN, MAX, 0}};
        for (int[] a : none) due("write of none", x.write(a[0], a[1], a[2], a[3]), NO_SUCH);
        for (int letter : new int[] {-1, 26, MIN, MAX})
            due("write(0, 2, 2, " + letter + ")", x.write(0, 2, 2, letter), BAD_VALUE);
        due("write where a letter is", x.write(0, 2, 2, 1), NOT_POSSIBLE);
        due("write where it is promised to another one", x.write(0, 4, 4, 1), NOT_POSSIBLE);
        due("nothing changed", all(x), before);
        x.set(2, 71);
        due("write with too little light", x.write(0, 2, 3, 1), NOT_POSSIBLE);
        x.set(2, 70);
        due("write with just enough light", x.write(0, 2, 3, 1), 0);
        due("write where it is promised to it: it spoils both others", x.write(1, 4, 4, 1), 2);
        due("at(4, 4, 2): the promise is over", x.at(4, 4, 2), NONE);
        due("without a plate", new PlateWriters().write(0, 0, 0, 0), NO_SUCH);
        PlateWriters noWriter = desk();
        due("without a writer", noWriter.write(0, 0, 0, 99), NO_SUCH);
    }

    /** Written and rubbed out again and again beside it, a place comes down to the least floats and to 0. */
    private static void lightVanishes() {
        PlateWriters x = desk(5);
        x.set(0, 18);
        float light = 1.0f;
        for (int i = 0; i < 60; i++) {
            writeAndRub(x, 1, 0, 1);
            light = dim(light, 90);
            light("at(0, 0, 3) after " + i, x.at(0, 0, 3), light);
        }
        due("the light is gone", x.at(0, 0, 3), 0);
        light("ofPlate(0, 4)", x.ofPlate(0, 4), 0.0f);
    }

    private static void promise7() {
        PlateWriters x = desk(5, 1);
        due("promise(0, 5, 5)", x.promise(0, 5, 5), 1);
        due("promise(1, 5, 7)", x.promise(1, 5, 7), 2);
        due("at(5, 5, 2)", x.at(5, 5, 2), 0);
        due("at(5, 7, 2)", x.at(5, 7, 2), 1);
        light("the light stays", x.at(5, 6, 3), 1.0f);
        light("the light told ahead", x.at(5, 6, 4), dim(dim(1.0f, 30), 6));
        light("that of a promised place", x.at(5, 7, 4), dim(1.0f, 10));
        long before = all(x);
        due("promise(0, 5, 7)", x.promise(0, 5, 7), NOT_POSSIBLE);
        due("promise(1, 5, 7)", x.promise(1, 5, 7), NOT_POSSIBLE);
        int[][] none = {{2, 0, 0}, {-1, 0, 0}, {0, 10, 0}, {0, -1, 0}, {0, 0, 12}, {0, 0, -1}, {MIN, MAX, MIN}};
        for (int[] a : none) due("promise of none", x.promise(a[0], a[1], a[2]), NO_SUCH);
        due("nothing changed", all(x), before);
        x.write(0, 0, 0, 0);
        due("promise where a letter is", x.promise(0, 0, 0), NOT_POSSIBLE);
        x.set(2, 66);
        due("promise with too little light told ahead", x.promise(0, 5, 6), NOT_POSSIBLE);
        x.set(2, 65);
        due("promise with enough light told ahead", x.promise(0, 5, 6), 3);
        due("promise(1, 0, 0) on a new plate", desk(1, 1).promise(1, 0, 0), 1);
        due("promise without a plate", new PlateWriters().promise(0, 0, 0), NO_SUCH);
        due("promise without a writer", desk().promise(0, 0, 0), NO_SUCH);
        x.plate();
        due("promise on another plate", x.promise(1, 5, 5), 1);
        rowByRow();
    }

    /** Promises dim row by row, not in the order in which they came. */
    private static void rowByRow() {
        PlateWriters x = desk(5, 3, 2);
        x.set(0, 7);
        x.set(2, 1);
        x.promise(2, 2, 2);
        x.promise(1, 1, 0);
        x.promise(0, 0, 1);
        float ahead = dim(dim(dim(1.0f, 35), 21), 14);
        light("at(1, 1, 4)", x.at(1, 1, 4), ahead);
        x.promise(0, 3, 1);
        x.promise(1, 1, 3);
        light("at(1, 1, 4)", x.at(1, 1, 4), dim(dim(dim(dim(dim(1.0f, 35), 21), 6), 14), 10));
    }

    private static void promise8() {
        PlateWriters x = desk(5, 1);
        x.promise(1, 9, 11);
        x.promise(0, 9, 0);
        long before = all(x);
        due("takeBack(0, 0)", x.takeBack(0, 0), NOT_POSSIBLE);
        int[][] none = {{10, 0}, {-1, 0}, {0, 12}, {0, -1}, {MAX, MAX}, {MIN, MIN}};
        for (int[] a : none) due("takeBack of none", x.takeBack(a[0], a[1]), NO_SUCH);
        due("nothing changed", all(x), before);
        due("takeBack(9, 11)", x.takeBack(9, 11), 1);
        due("takeBack(9, 11) again", x.takeBack(9, 11), NOT_POSSIBLE);
        due("at(9, 11, 2)", x.at(9, 11, 2), NONE);
        light("at(9, 10, 4)", x.at(9, 10, 4), 1.0f);
        due("takeBack(9, 0)", x.takeBack(9, 0), 0);
        due("without a plate", new PlateWriters().takeBack(0, 0), NO_SUCH);
    }

    private static void promise9() {
        PlateWriters x = desk(5, 1);
        x.write(0, 4, 4, 17);
        x.write(1, 4, 5, 0);
        long before = all(x);
        due("rub(0, 0)", x.rub(0, 0), NOT_POSSIBLE);
        int[][] none = {{10, 0}, {-1, 0}, {0, 12}, {0, -1}, {MAX, MAX}, {MIN, MIN}};
        for (int[] a : none) due("rub of none", x.rub(a[0], a[1]), NO_SUCH);
        due("nothing changed", all(x), before);
        due("rub(4, 4)", x.rub(4, 4), 17);
        light("at(4, 4, 3)", x.at(4, 4, 3), (dim(1.0f, 6) + 1.0f) / 2.0f);
        due("at(4, 4, 0)", x.at(4, 4, 0), NONE);
        due("at(4, 4, 1)", x.at(4, 4, 1), NONE);
        light("what it clouded stays", x.at(4, 3, 3), dim(dim(1.0f, 30), 2));
        due("rub(4, 5)", x.rub(4, 5), 0);
        due("rub(4, 5) again", x.rub(4, 5), NOT_POSSIBLE);
        due("of(0, 1)", x.of(0, 1), 0);
        due("of(0, 4)", x.of(0, 4), 1);
        due("without a plate", new PlateWriters().rub(0, 0), NO_SUCH);
    }

    private static void promise10() {
        PlateWriters x = desk(5);
        x.write(0, 4, 4, 0);
        x.promise(0, 0, 0);
        x.plate();
        x.write(0, 4, 4, 0);
        for (int hours : new int[] {0, 49, -1, MIN, MAX}) due("pass(" + hours + ")", x.pass(hours), BAD_VALUE);
        due("pass(1)", x.pass(1), 1);
        due("pass(2)", x.pass(2), 3);
        light("on the desk nothing clears", x.at(4, 5, 3), dim(1.0f, 30));
        x.lay(0);
        light("at(4, 5, 3)", x.at(4, 5, 3), clear(clear(clear(dim(1.0f, 30), 10), 10), 10));
        light("at(4, 6, 3)", x.at(4, 6, 3), clear(clear(clear(dim(1.0f, 10), 10), 10), 10));
        due("the promise stays", x.at(0, 0, 2), 0);
        x.lay(1);
        x.set(3, 50);
        due("pass(48)", x.pass(48), 51);
        x.lay(0);
        float light = clear(clear(clear(dim(1.0f, 30), 10), 10), 10);
        for (int i = 0; i < 48; i++) light = clear(light, 50);
        light("at(4, 5, 3)", x.at(4, 5, 3), light);
        x = new PlateWriters();
        for (int i = 1; i <= 208; i++) due("pass(48)", x.pass(48), 48 * i);
        due("pass(16)", x.pass(16), NOT_POSSIBLE);
        due("pass(49)", x.pass(49), BAD_VALUE);
        due("pass(15)", x.pass(15), 9999);
        due("pass(1)", x.pass(1), NOT_POSSIBLE);
        due("count(0)", x.count(0), 9999);
    }

    private static void promise11() {
        PlateWriters x = desk(5, 1);
        x.write(1, 9, 11, 25);
        x.promise(0, 9, 9);
        due("at(9, 11, 0)", x.at(9, 11, 0), 25);
        due("at(9, 11, 1)", x.at(9, 11, 1), 1);
        due("at(9, 11, 2)", x.at(9, 11, 2), NONE);
        light("at(9, 11, 3)", x.at(9, 11, 3), 1.0f);
        light("at(9, 11, 4)", x.at(9, 11, 4), dim(1.0f, 10));
        due("at(9, 11, 5)", x.at(9, 11, 5), 0);
        due("at(9, 11, 6)", x.at(9, 11, 6), 1);
        due("at(9, 9, 0)", x.at(9, 9, 0), NONE);
        due("at(9, 9, 1)", x.at(9, 9, 1), NONE);
        due("at(9, 9, 2)", x.at(9, 9, 2), 0);
        due("at(9, 9, 5)", x.at(9, 9, 5), 0);
        due("at(9, 9, 6)", x.at(9, 9, 6), 0);
        light("at(9, 9, 4)", x.at(9, 9, 4), dim(1.0f, 2));
        light("at(9, 10, 4)", x.at(9, 10, 4), dim(dim(1.0f, 6), 30));
        x.set(2, 66);
        due("at(9, 10, 5)", x.at(9, 10, 5), 0);
        due("at(0, 0, 5)", x.at(0, 0, 5), 1);
        x.set(2, 65);
        due("at(9, 10, 5)", x.at(9, 10, 5), 1);
        for (int what : new int[] {-1, 7, MIN, MAX}) due("at(0, 0, " + what + ")", x.at(0, 0, what), BAD_VALUE);
        int[][] none = {{10, 0}, {-1, 0}, {0, 12}, {0, -1}, {MAX, MAX}, {MIN, MIN}};
        for (int[] a : none) due("at of none", x.at(a[0], a[1], 7), NO_SUCH);
        due("at without a plate", new PlateWriters().at(0, 0, 9), NO_SUCH);
        x = desk(5);
        x.write(0, 0, 0, 0);
        x.write(0, 0, 1, 0);
        x.set(2, 70);
        due("a letter with just enough light", x.at(0, 0, 6), 1);
        x.set(2, 71);
        due("a letter with too little light", x.at(0, 0, 6), 0);
    }

    private static void promise12() {
        PlateWriters x = desk(5, 1);
        for (int column : new int[] {0, 1, 2, 4, 5, 11}) x.write(1, 3, column, 0);
        x.write(1, 2, 11, 0);
        x.promise(1, 3, 9);
        due("row(3, 0)", x.row(3, 0), 1 << 0 | 1 << 1 | 1 << 2 | 1 << 4 | 1 << 5 | 1 << 11);
        due("row(3, 1)", x.row(3, 1), 1 << 0 | 1 << 1 | 1 << 2 | 1 << 4 | 1 << 5 | 1 << 11);
        due("row(3, 2)", x.row(3, 2), 1 << 9);
        due("row(3, 3)", x.row(3, 3), 1 << 3 | 1 << 6 | 1 << 7 | 1 << 8 | 1 << 10);
        due("row(3, 4)", x.row(3, 4), 3);
        due("row(4, 4)", x.row(4, 4), 0);
        due("row(9, 3)", x.row(9, 3), 4095);
        x.set(2, 93);
        int readable = x.row(3, 1);
        int want = 0;
        for (int column = 0; column < 12; column++) want |= x.at(3, column, 6) << column;
        due("row(3, 1)", readable, want);
        due("some letters cannot be read", readable == x.row(3, 0) ? 1 : 0, 0);
        due("row(3, 3) with more light needed", x.row(3, 3) & 1 << 10, 0);
        for (int row : new int[] {-1, 10, MIN, MAX}) due("row(" + row + ", 9)", x.row(row, 9), NO_SUCH);
        for (int what : new int[] {-1, 5, MIN, MAX}) due("row(0, " + what + ")", x.row(0, what), BAD_VALUE);
        due("row without a plate", new PlateWriters().row(0, 9), NO_SUCH);
        x = desk(1);
        x.set(0, 0);
        x.set(1, 0);
        for (int column = 0; column < 12; column++) x.write(0, 9, column, 0);
        due("a word as long as the row", x.row(9, 4), 12);
        x.rub(9, 3);
        due("the longer of two words", x.row(9, 4), 8);
        x.set(0, 18);
        x.set(2, 90);
        x.write(0, 8, 8, 0);
        due("a letter that cannot be read ends a word", x.row(9, 4), 3);
    }

    private static void promise13() {
        PlateWriters x = desk(5, 1, 3);
        x.set(2, 60);
        x.write(0, 0, 0, 0);
        x.write(1, 0, 1, 0);
        x.write(0, 9, 9, 0);
        x.promise(1, 9, 0);
        x.plate();
        x.write(0, 0, 0, 0);
        x.promise(1, 9, 0);
        x.promise(0, 9, 9);
        int[][] wants = {{5, 3, 3, 1, 3, 0}, {1, 1, 1, 2, 1, 0}, {3, 0, 0, 0, 0, 0}};
        for (int who = 0; who < 3; who++)
            for (int what = 0; what < 6; what++) due("of(" + who + ", " + what + ")", x.of(who, what), wants[who][what]);
        x.lay(0);
        x.set(0, 18);
        x.set(2, 10);
        x.set(1, 0);
        due("write(0, 1, 0, 0)", x.write(0, 1, 0, 0), 2);
        due("of(0, 2)", x.of(0, 2), 3);
        due("of(1, 2)", x.of(1, 2), 0);
        due("of(0, 5)", x.of(0, 5), 2);
        due("rub(0, 0)", x.rub(0, 0), 0);
        x.set(2, 50);
        due("write(2, 0, 0, 3)", x.write(2, 0, 0, 3), 1);
        due("of(0, 5): what was spoiled stays told", x.of(0, 5), 2);
        due("of(2, 5)", x.of(2, 5), 1);
        for (int who : new int[] {-1, 3, 5, MIN, MAX}) due("of(" + who + ", 9)", x.of(who, 9), NO_SUCH);
        for (int what : new int[] {-1, 6, MIN, MAX}) due("of(0, " + what + ")", x.of(0, what), BAD_VALUE);
    }

    private static void promise14() {
        PlateWriters x = desk(5, 1);
        x.write(0, 4, 4, 0);
        x.write(1, 4, 5, 0);
        x.promise(1, 0, 0);
        x.plate();
        due("ofPlate(0, 0)", x.ofPlate(0, 0), 2);
        due("ofPlate(0, 1)", x.ofPlate(0, 1), 2);
        due("ofPlate(0, 2)", x.ofPlate(0, 2), 1);
        due("ofPlate(0, 3)", x.ofPlate(0, 3), 117);
        light("ofPlate(0, 4)", x.ofPlate(0, 4), dim(dim(1.0f, 30), 6));
        due("ofPlate(1, 0)", x.ofPlate(1, 0), 0);
        due("ofPlate(1, 3)", x.ofPlate(1, 3), 120);
        light("ofPlate(1, 4)", x.ofPlate(1, 4), 1.0f);
        light("ofPlate(1, 5)", x.ofPlate(1, 5), 120.0f);
        x.lay(0);
        float sum = 0.0f;
        for (int place = 0; place < 120; place++) sum += Float.intBitsToFloat(x.at(place / 12, place % 12, 3));
        light("ofPlate(0, 5)", x.ofPlate(0, 5), sum);
        x.set(2, 75);
        due("ofPlate(0, 1)", x.ofPlate(0, 1), 1);
        due("ofPlate(0, 3)", x.ofPlate(0, 3), 117 - 7);
        for (int plate : new int[] {-1, 2, 4, MIN, MAX}) due("ofPlate(" + plate + ", 9)", x.ofPlate(plate, 9), NO_SUCH);
        for (int what : new int[] {-1, 6, MIN, MAX}) due("ofPlate(0, " + what + ")", x.ofPlate(0, what), BAD_VALUE);
        darker();
    }

    /** Sums, means and least lights of a plate that becomes dark place by place. */
    private static void darker() {
        PlateWriters x = desk(5);
        for (int places = 1; places <= 120; places++) {
            x = desk(5);
            x.set(2, 1);
            for (int place = 1; place < places; place++)
                if (place % 7 != 0) x.write(0, place / 12, place % 12, 0);
            float sum = 0.0f, least = 1.0f;
            double mean = 0.0;
            for (int other = 0; other < 120; other++) {
                float light = Float.intBitsToFloat(x.at(other / 12, other % 12, 3));
                sum += light;
                mean += (double) light;
                least = Math.min(least, light);
            }
            light("ofPlate(0, 4)", x.ofPlate(0, 4), least);
            light("ofPlate(0, 5)", x.ofPlate(0, 5), sum);
            due("mean()", x.mean(), Double.doubleToLongBits(mean / 120.0));
        }
        due("a mean below a quarter", Double.longBitsToDouble(x.mean()) < 0.25 ? 1 : 0, 1);
        x = desk(5);
        x.write(0, 0, 1, 0);
        x.write(0, 1, 0, 0);
        x.write(0, 1, 1, 0);
        light("the first place is the darkest", x.ofPlate(0, 4), dim(dim(dim(1.0f, 30), 30), 30));
        x = desk(5);
        x.write(0, 0, 0, 0);
        x.write(0, 0, 2, 0);
        x.write(0, 1, 1, 0);
        light("the second place is the darkest", x.ofPlate(0, 4), dim(dim(dim(1.0f, 30), 30), 30));
    }

    private static void promise15() {
        PlateWriters x = desk(5, 1);
        x.set(0, 1);
        x.set(1, 3);
        x.set(2, 50);
        x.set(3, 20);
        x.plate();
        x.pass(7);
        put(x, "nnn");
        int[] counts = {7, 2, 1, 2, 1, 3, 50, 20, 3, 6};
        for (int what = 0; what < 10; what++) due("count(" + what + ")", x.count(what), counts[what]);
        for (int what : new int[] {-1, 10, MIN, MAX}) due("count(" + what + ")", x.count(what), BAD_VALUE);
    }

    private static void promise16() {
        PlateWriters x = desk(5);
        due("mean()", x.mean(), Double.doubleToLongBits(1.0));
        x.set(0, 13);
        for (int column = 0; column < 12; column += 3) x.write(0, 5, column, 0);
        double sum = 0.0;
        for (int place = 0; place < 120; place++) sum += (double) Float.intBitsToFloat(x.at(place / 12, place % 12, 3));
        due("mean()", x.mean(), Double.doubleToLongBits(sum / 120.0));
        x.plate();
        due("mean() of the plate on the desk", x.mean(), Double.doubleToLongBits(1.0));
        due("mean() without a plate", new PlateWriters().mean(), Double.doubleToLongBits(0.0));
    }

    private static void promise17() {
        PlateWriters x = desk(5, 1);
        x.set(0, 18);
        x.set(1, 9);
        x.write(1, 4, 4, 0);
        x.write(1, 4, 8, 0);
        x.promise(1, 6, 5);
        x.promise(1, 6, 8);
        long before = all(x);
        due("ifWritten(0, 5, 5, 0)", x.ifWritten(0, 5, 5, 0), 1);
        due("ifWritten(0, 5, 5, 1)", x.ifWritten(0, 5, 5, 1), 1);
        due("ifWritten(1, 5, 5, 0)", x.ifWritten(1, 5, 5, 0), 0);
        due("ifWritten(1, 5, 5, 1)", x.ifWritten(1, 5, 5, 1), 0);
        due("ifWritten(0, 6, 5, 1): but itself", x.ifWritten(0, 6, 5, 1), 0);
        due("ifWritten(0, 4, 4, 0): where a letter is", x.ifWritten(0, 4, 4, 0), 0);
        due("nothing changed", all(x), before);
        int[][] none = {{2, 0, 0}, {-1, 0, 0}, {0, 10, 0}, {0, -1, 0}, {0, 0, 12}, {0, 0, -1}, {MIN, MAX, MIN}};
        for (int[] a : none) due("ifWritten of none", x.ifWritten(a[0], a[1], a[2], 9), NO_SUCH);
        for (int what : new int[] {-1, 3, MIN, MAX})
            due("ifWritten(0, 0, 0, " + what + ")", x.ifWritten(0, 0, 0, what), BAD_VALUE);
        due("without a plate", new PlateWriters().ifWritten(0, 0, 0, 0), NO_SUCH);
        due("without a writer", desk().ifWritten(0, 0, 0, 0), NO_SUCH);
        x = desk(5);
        x.set(0, 18);
        x.set(1, 0);
        due("ifWritten(0, 5, 5, 2)", x.ifWritten(0, 5, 5, 2), 120 - 9);
        due("ifWritten(0, 0, 0, 2)", x.ifWritten(0, 0, 0, 2), 120 - 4);
        x.promise(0, 5, 5);
        due("ifWritten(0, 5, 5, 2): its promise is over", x.ifWritten(0, 5, 5, 2), 120 - 9);
        due("ifWritten(0, 5, 6, 2): dark, and then not promised", x.ifWritten(0, 5, 6, 2), 120 - 12);
        x.write(0, 5, 5, 0);
        due("ifWritten(0, 5, 5, 2): where a letter is", x.ifWritten(0, 5, 5, 2), 120 - 9);
        x.set(1, 9);
        x.promise(0, 5, 7);
        x.promise(0, 3, 3);
        due("ifWritten(0, 5, 6, 1): the light, not that told ahead", x.ifWritten(0, 5, 6, 1), 1);
        x.set(2, 99);
        due("ifWritten(0, 5, 6, 1): at most those that have light", x.ifWritten(0, 5, 6, 1), 1);
        PlateWriters y = desk(5);
        y.set(2, 1);
        y.promise(0, 5, 7);
        y.write(0, 5, 6, 0);
        y.set(2, 71);
        due("what has no light any more does not count", y.ifWritten(0, 5, 8, 1), 0);
        y.set(2, 70);
        due("but what has it", y.ifWritten(0, 5, 8, 1), 1);
        y = desk(5);
        y.set(2, 80);
        y.promise(0, 0, 0);
        y.promise(0, 9, 11);
        due("the first place", y.ifWritten(0, 1, 1, 1), 1);
        due("the last place", y.ifWritten(0, 8, 10, 1), 1);
    }

    private static void promise18() {
        due("bestPlace() without a plate", new PlateWriters().bestPlace(), NO_SUCH);
        PlateWriters x = desk(5);
        due("bestPlace()", x.bestPlace(), 0);
        x.promise(0, 0, 0);
        due("bestPlace()", x.bestPlace(), 3);
        x.write(0, 0, 4, 0);
        due("bestPlace()", x.bestPlace(), 7);
        for (int column = 7; column < 12; column += 2) x.write(0, 0, column, 0);
        due("bestPlace()", x.bestPlace(), 36);
        x.set(0, 0);
        x.set(1, 0);
        for (int place = 36; place < 120; place++) x.write(0, place / 12, place % 12, 0);
        int best = x.bestPlace();
        float most = Float.intBitsToFloat(x.at(best / 12, best % 12, 4));
        for (int place = 0; place < 120; place++) {
            float it = Float.intBitsToFloat(x.at(place / 12, place % 12, 4));
            boolean better = x.at(place / 12, place % 12, 5) == 1 && (it > most || it == most && place < best);
            due("place " + place + " is better than " + best, better ? 1 : 0, 0);
        }
        due("bestPlace() has room", x.at(best / 12, best % 12, 5), 1);
        x.set(2, 1);
        for (int place = 0; place < 120; place++) x.write(0, place / 12, place % 12, 0);
        due("bestPlace() of a plate full of letters", x.bestPlace(), NONE);
        x = desk(5);
        x.set(2, 99);
        for (int place = 0; place < 120; place++) x.write(0, place / 12, place % 12, 0);
        due("some places have no letter", x.ofPlate(0, 0) < 120 ? 1 : 0, 1);
        due("bestPlace() without light", x.bestPlace(), NONE);
    }

    private static void promise19() {
        due("fills(0) without a plate", new PlateWriters().fills(0), NO_SUCH);
        due("fills(0) without a writer", desk().fills(0), NO_SUCH);
        PlateWriters x = new PlateWriters();
        x.writer(1);
        due("fills(0) without a plate", x.fills(0), NO_SUCH);
        x = deskToFill();
        for (int who : new int[] {-1, 2, 5, MIN, MAX}) due("fills(" + who + ")", x.fills(who), NO_SUCH);
        int[] wants = {filledByHand(deskToFill(), 0), filledByHand(deskToFill(), 1)};
        long before = all(x);
        due("fills(0)", x.fills(0), wants[0]);
        due("fills(1)", x.fills(1), wants[1]);
        due("nothing changed", all(x), before);
        due("who presses harder fills less", wants[1] < wants[0] && wants[1] > 0 ? 1 : 0, 1);
        x.set(0, 0);
        x.set(1, 0);
        due("fills(0) without losses", x.fills(0), 118);
        for (int last : new int[] {0, 119}) {
            x = desk(5);
            x.set(0, 0);
            x.set(1, 0);
            for (int place = 0; place < 120; place++) if (place != last) x.write(0, place / 12, place % 12, 0);
            due("fills(0) with one place left", x.fills(0), 1);
            due("bestPlace() with one place left", x.bestPlace(), last);
        }
        x = desk(5);
        x.set(2, 99);
        x.write(0, 4, 4, 0);
        due("fills(0) of a plate that is empty", x.fills(0) > 0 ? 1 : 0, 1);
        for (int place = 0; place < 120; place++) x.write(0, place / 12, place % 12, 0);
        due("fills(0) without room", x.fills(0), 0);
    }

    private static PlateWriters deskToFill() {
        PlateWriters x = desk(1, 5);
        x.promise(0, 4, 4);
        x.write(1, 7, 7, 0);
        return x;
    }

    private static int filledByHand(PlateWriters x, int who) {
        int letters = 0;
        for (int best = x.bestPlace(); best != NONE; best = x.bestPlace()) {
            x.promise(who, best / 12, best % 12);
            x.write(who, best / 12, best % 12, 0);
            letters++;
        }
        return letters;
    }

    private static void promise20() {
        due("whoDims(0, 0) without a plate", new PlateWriters().whoDims(0, 0), NO_SUCH);
        PlateWriters x = desk(1, 2, 2, 5);
        int[][] none = {{10, 0}, {-1, 0}, {0, 12}, {0, -1}, {MAX, MAX}, {MIN, MIN}};
        for (int[] a : none) due("whoDims of none", x.whoDims(a[0], a[1]), NO_SUCH);
        due("whoDims(5, 5)", x.whoDims(5, 5), NONE);
        x.write(3, 5, 5, 0);
        due("the place itself does not count", x.whoDims(5, 5), NONE);
        due("whoDims(5, 8)", x.whoDims(5, 8), NONE);
        due("whoDims(5, 7)", x.whoDims(5, 7), 3);
        x.write(2, 5, 8, 0);
        due("the first ring of the weaker one", x.whoDims(5, 7), 2);
        x.write(1, 6, 8, 0);
        due("of several the lowest one", x.whoDims(5, 7), 1);
        x.write(0, 4, 7, 0);
        x.write(0, 4, 6, 0);
        due("two of the weakest", x.whoDims(5, 7), 1);
        x.write(0, 4, 8, 0);
        due("three of the weakest", x.whoDims(5, 7), 0);
        x.rub(4, 8);
        due("a letter that is rubbed out does not count", x.whoDims(5, 7), 1);
        x.set(0, 0);
        due("only the second ring", x.whoDims(5, 7), 3);
        x.set(1, 0);
        due("nobody without losses", x.whoDims(5, 7), NONE);
        x.plate();
        x.set(1, 9);
        due("on the plate on the desk", x.whoDims(5, 7), NONE);
        x.promise(3, 5, 7);
        due("a promise does not count", x.whoDims(5, 6), NONE);
        x.write(2, 0, 0, 0);
        due("the first place", x.whoDims(0, 2), 2);
        x.write(2, 9, 11, 0);
        due("the last place", x.whoDims(9, 9), 2);
    }

    private static void promise21() {
        due("readableIn(0) without a plate", new PlateWriters().readableIn(0), NO_SUCH);
        PlateWriters x = desk(5);
        for (int plate : new int[] {-1, 1, 4, MIN, MAX}) due("readableIn(" + plate + ")", x.readableIn(plate), NO_SUCH);
        due("readableIn(0)", x.readableIn(0), 0);
        x.set(0, 17);
        x.write(0, 0, 0, 0);
        due("readableIn(0)", x.readableIn(0), 0);
        x.set(2, 1);
        x.write(0, 0, 1, 0);
        x.write(0, 1, 0, 0);
        x.set(2, 40);
        due("ofPlate(0, 0)", x.ofPlate(0, 0), 3);
        float light = dim(dim(1.0f, 85), 85);
        int hours = 0;
        for (float then = light; then < 40.0f / 100.0f; then = clear(then, 10)) hours++;
        due("readableIn(0)", x.readableIn(0), hours);
        x.plate();
        due("readableIn(0) that lies aside", x.readableIn(0), hours);
        x.pass(hours - 1);
        due("readableIn(0)", x.readableIn(0), 1);
        x.pass(1);
        due("readableIn(0)", x.readableIn(0), 0);
        x.undo();
        x.undo();
        x.set(3, 0);
        due("readableIn(0) without clearing", x.readableIn(0), NONE);
        x.set(3, 1);
        for (int read = 1; read < 100; read++) {
            x.set(2, read);
            hours = 0;
            for (float then = light; then < (float) read / 100.0f; then = clear(then, 1)) hours++;
            due("readableIn(0) with READ " + read, x.readableIn(0), hours);
        }
        due("some hours are many", hours > 450 && hours <= 500 ? 1 : 0, 1);
        for (int place : new int[] {0, 119}) {
            x = desk(1);
            x.write(0, place / 12, place % 12, 0);
            x.set(0, 18);
            writeAndRub(x, 9, place == 0 ? 1 : 8, place == 0 ? 1 : 10);
            due("a letter at the edge", x.readableIn(0) > 0 ? 1 : 0, 1);
        }
        x = desk(5, 5);
        for (int i = 0; i < 208; i++) x.pass(48);
        x.pass(15);
        x.set(0, 17);
        x.write(0, 0, 0, 0);
        x.set(2, 1);
        x.write(1, 0, 1, 0);
        x.set(2, 40);
        hours = 0;
        for (float then = dim(1.0f, 85); then < 40.0f / 100.0f; then = clear(then, 10)) hours++;
        due("the bound of hours does not matter", x.readableIn(0), hours);
        due("count(0)", x.count(0), 9999);
    }

    private static void promise22() {
        PlateWriters x = new PlateWriters();
        due("put(0)", x.put(0L), BAD_VALUE);
        due("put(32)", x.put(32L), BAD_VALUE);
        due("put(127)", x.put(127L), BAD_VALUE);
        due("put(255)", x.put(255L), BAD_VALUE);
        due("put of 0 behind a character", x.put('n' << 8), BAD_VALUE);
        due("put of 0 between characters", x.put('n' << 16 | 'n'), BAD_VALUE);
        due("put of a 0 and a bit far above", x.put(1L << 63 | 'n'), BAD_VALUE);
        due("put of a bad character ahead", x.put(32L << 8 | 'n'), BAD_VALUE);
        due("put(-1)", x.put(-1L), BAD_VALUE);
        due("put(MIN)", x.put(Long.MIN_VALUE), BAD_VALUE);
        due("put of eight, the first one bad", x.put(0x806e6e6e6e6e6e6eL), BAD_VALUE);
        due("count(8)", x.count(8), 0);
        due("put(33)", x.put(33L), 1);
        due("put(126)", x.put(126L), 2);
        x.wipe();
        due("put of 8", put(x, "k1;n;w0@"), 8);
        due("put of 2 more", put(x, "5."), 10);
        due("put of 5 more", put(x, "6=abz"), 15);
        due("carryOut()", x.carryOut(), 5);
        due("the characters came in their order", x.row(5, 0), 1 << 6 | 1 << 7 | 1 << 8);
        for (int i = 1; i <= 9; i++) due("put of 8", put(x, "nnnnnnnn"), 8 * i);
        due("put of 7", put(x, "nnnnnnn"), 79);
        due("put of 2 more", put(x, "nn"), TOO_MANY);
        due("put of bad ones on a pad that is almost full", x.put(0x2020L), BAD_VALUE);
        due("put of 1 more", put(x, "n"), 80);
        due("put of 1 more", put(x, "n"), TOO_MANY);
        due("put is no change", x.count(9), 1);
    }

    private static void promise23() {
        PlateWriters x = desk();
        due("wipe()", x.wipe(), 0);
        put(x, "abcdefghij");
        due("wipe()", x.wipe(), 10);
        due("wipe()", x.wipe(), 0);
        due("count(8)", x.count(8), 0);
        due("wipe is no change", x.count(9), 1);
        put(x, "n");
        due("what was wiped does not come back", x.carryOut(), 1);
    }

    private static void promise24() {
        String[] fine = {"n", "o0", "o9", "k5", "h0", "h9", "h99", "x@0.0", "x@99.99", "p3@10.2", "w0@1.2=a",
            "w9@99.0=abcxyz", "n;n", "h1;h20;x@1.1;n", "w0@1.2=a;w0@1.2=a", "w0@1.2=no;n"};
        for (String text : fine) due("fault of " + text, faultOf(text), NONE);
        Object[][] bad = {{"", 0}, {"N", 0}, {";", 0}, {"q", 0}, {"0", 0}, {"n;", 2}, {"n;;", 2}, {"nn", 1}, {"n0", 1},
            {"o", 1}, {"oa", 1}, {"o10", 2}, {"k", 1}, {"k12", 2}, {"h", 1}, {"h;", 1}, {"h00", 2}, {"h01", 2},
            {"h100", 3}, {"h999", 3}, {"h1.", 2}, {"x", 1}, {"x1", 1}, {"x@", 2}, {"x@1", 3}, {"x@1.", 4}, {"x@.", 2},
            {"x@100.1", 4}, {"x@01.1", 3}, {"x@1.01", 5}, {"x@1.100", 6}, {"x@1.1=", 5}, {"x@1;", 3}, {"p", 1},
            {"p@", 1}, {"p10@", 2}, {"p1@", 3}, {"p1@1.1=a", 6}, {"w", 1}, {"w0", 2}, {"w0@1.2", 6}, {"w0@1.2;", 6},
            {"w0@1.2=", 7}, {"w0@1.2=;", 7}, {"w0@1.2=A", 7}, {"w0@1.2=a1", 8}, {"w0@1.2=a~", 8}, {"w0@1.2=`", 7},
            {"w0@1.2={", 7}, {"w00@1.2=a", 2}, {"h/", 1}, {"h:", 1}, {"h1/", 2}, {"h1:", 2}, {"n;n;n;z", 6}};
        for (Object[] it : bad) due("fault of " + it[0], faultOf((String) it[0]), (Integer) it[1]);
        StringBuilder longest = new StringBuilder("w0@0.0=");
        while (longest.length() < 80) longest.append('z');
        due("fault of a pad that is full", faultOf(longest.toString()), NONE);
        longest.setCharAt(79, ';');
        due("fault of a full pad that ends too early", faultOf(longest.toString()), 80);
        PlateWriters x = desk();
        put(x, "zz");
        due("fault()", x.fault(), 0);
        due("the pad stays", x.count(8), 2);
        due("fault is no change", x.count(9), 1);
    }

    private static void promise25() {
        PlateWriters x = new PlateWriters();
        due("carryOut() of nothing", x.carryOut(), BAD_TEXT);
        put(x, "n;;");
        due("carryOut() with a fault", x.carryOut(), BAD_TEXT);
        due("the pad stays", x.count(8), 3);
        due("nothing was carried out", x.count(1), 0);
        due("nothing can be undone", x.count(9), 0);
        x.wipe();
        due("carryOut()", carry(x, "n;k5;k1;w0@5.5=ace;p1@0.0;x@5.6;n;o0;h9;o1"), 12);
        due("the pad is empty", x.count(8), 0);
        due("one change", x.count(9), 1);
        due("count(0)", x.count(0), 9);
        due("count(1)", x.count(1), 2);
        due("count(2)", x.count(2), 1);
        due("count(3)", x.count(3), 2);
        x.lay(0);
        due("at(5, 5, 0)", x.at(5, 5, 0), 0);
        due("at(5, 6, 0)", x.at(5, 6, 0), NONE);
        due("at(5, 7, 0)", x.at(5, 7, 0), 4);
        due("at(0, 0, 2)", x.at(0, 0, 2), 1);
        due("up to the first error", carry(x, "h1;h0;h2"), 1);
        due("count(0)", x.count(0), 10);
        due("a word beyond the edge", carry(x, "w1@9.10=abc;h1"), 2);
        due("row(9, 0)", x.row(9, 0), 3 << 10);
        due("count(0)", x.count(0), 10);
        int before = x.count(9);
        due("none carried out", carry(x, "h99;n"), 0);
        due("is a change also", x.count(9), before + 1);
        due("a text", carry(x, "h1;h1;h1"), 3);
        due("a shorter text behind it", carry(x, "h1"), 1);
        x.undo();
        x.undo();
        due("o9", carry(x, "o9"), 0);
        due("o0", carry(x, "o0"), 0);
        due("k0", carry(x, "k0"), 0);
        due("k6", carry(x, "k6"), 0);
        due("w9", carry(x, "w9@1.1=a"), 0);
        due("w1 at a row that is none", carry(x, "w1@10.1=a"), 0);
        due("p at a column that is none", carry(x, "p1@1.12"), 0);
        due("x where nothing is", carry(x, "x@1.1"), 0);
        due("count(9)", x.count(9), 6);
        StringBuilder many = new StringBuilder("h1");
        while (many.length() < 77) many.append(";h1");
        due("many orders", carry(x, many.toString()), 26);
        due("undo()", x.undo(), 5);
        due("all of them are undone", x.count(0), 10);
    }

    private static void promise26() {
        PlateWriters x = new PlateWriters();
        due("undo()", x.undo(), NOT_POSSIBLE);
        for (int i = 0; i < 8; i++) {
            x.pass(1);
            due("count(9)", x.count(9), Math.min(6, i + 1));
        }
        for (int i = 5; i >= 0; i--) {
            due("undo()", x.undo(), i);
            due("count(0)", x.count(0), 2 + i);
        }
        due("undo()", x.undo(), NOT_POSSIBLE);
        for (int i = 0; i <= 4; i++) {
            int left = i;
            same("undone until " + left + " changes are left", () -> undone(changed(4), 4 - left), () -> changed(left));
        }
        undoOfEachChange();
        undoLeavesPadAndSlots();
    }

    private static PlateWriters changed(int changes) {
        PlateWriters x = new PlateWriters();
        carry(x, "n;k5;k1");
        if (changes > 0) x.write(0, 1, 1, 4);
        if (changes > 1) x.promise(1, 2, 2);
        if (changes > 2) carry(x, "n;w1@3.3=xyz;h5;o0;h3");
        if (changes > 3) x.set(0, 17);
        return x;
    }

    private static PlateWriters undone(PlateWriters x, int times) {
        for (int i = 0; i < times; i++) x.undo();
        return x;
    }

    private static void undoOfEachChange() {
        Call[] changes = {x -> x.set(0, 9), x -> x.plate(), x -> x.lay(0), x -> x.writer(4),
            x -> x.write(0, 4, 7, 1), x -> x.promise(0, 0, 0), x -> x.takeBack(7, 7), x -> x.write(1, 4, 4, 3),
            x -> x.rub(4, 3), x -> x.pass(2), x -> carry(x, "k2;x@4.3"), x -> x.restore(0)};
        for (int i = 0; i < changes.length; i++) {
            PlateWriters x = desk(5, 1);
            x.plate();
            x.write(0, 4, 4, 3);
            x.promise(1, 7, 7);
            x.save(0);
            x.rub(4, 4);
            x.write(0, 4, 3, 3);
            for (int k = 0; k < 6; k++) x.pass(1);
            long before = stateOf(x);
            changes[i].on(x);
            due("change " + i + " changes something", stateOf(x) == before ? 1 : 0, 0);
            due("undo() of change " + i, x.undo(), 5);
            due("the state before change " + i, stateOf(x), before);
        }
    }

    private static void undoLeavesPadAndSlots() {
        PlateWriters x = desk(5);
        put(x, "h1;h1");
        x.pass(3);
        x.save(1);
        x.undo();
        due("the pad stays", x.count(8), 5);
        due("count(0)", x.count(0), 0);
        due("the slot stays", x.restore(1), 1);
        due("count(0)", x.count(0), 3);
        due("undo() of a restore", x.undo(), 2);
        due("count(0)", x.count(0), 0);
        x.carryOut();
        due("count(0)", x.count(0), 2);
        x.undo();
        due("count(0)", x.count(0), 0);
        due("the pad stays empty", x.count(8), 0);
        due("set to what it is", x.set(2, 40), 40);
        due("records also", x.count(9), 3);
        due("write of none", x.write(9, 9, 9, 9), NO_SUCH);
        due("an error records nothing", x.count(9), 3);
        x.write(0, 0, 0, 0);
        x.write(0, 0, 1, 0);
        x.undo();
        due("of(0, 4)", x.of(0, 4), 1);
        due("all is as it was", x.undo(), 3);
        due("of(0, 4)", x.of(0, 4), 0);
    }

    private static void promise27() {
        PlateWriters x = new PlateWriters();
        for (int slot : new int[] {-1, 2, MIN, MAX}) due("save(" + slot + ")", x.save(slot), BAD_VALUE);
        due("save(0)", x.save(0), 0);
        x.plate();
        x.plate();
        due("save(1)", x.save(1), 2);
        due("save is no change", x.count(9), 2);
        due("restore(0)", x.restore(0), 0);
        due("count(2)", x.count(2), NONE);
        due("restore(1)", x.restore(1), 2);
        due("count(2)", x.count(2), 1);
        x.plate();
        due("save(0) overwrites", x.save(0), 3);
        x.restore(1);
        due("restore(0)", x.restore(0), 3);
    }

    private static void promise28() {
        PlateWriters x = desk(5, 1);
        for (int slot : new int[] {-1, 2, MIN, MAX}) due("restore(" + slot + ")", x.restore(slot), BAD_VALUE);
        due("restore(0)", x.restore(0), NOT_POSSIBLE);
        due("restore(1)", x.restore(1), NOT_POSSIBLE);
        due("count(9)", x.count(9), 3);
        x.write(0, 4, 4, 9);
        x.promise(1, 5, 5);
        x.set(3, 44);
        put(x, "n;n");
        x.save(1);
        long saved = stateOf(x);
        x.rub(4, 4);
        x.plate();
        x.writer(3);
        x.pass(5);
        x.set(3, 1);
        due("restore(0)", x.restore(0), NOT_POSSIBLE);
        due("restore(1)", x.restore(1), 1);
        due("all is as saved", stateOf(x), saved);
        PlateWriters y = new PlateWriters();
        y.writer(5);
        y.save(0);
        y.undo();
        y.writer(1);
        y.restore(0);
        due("how hard was pressed then", y.of(0, 0), 5);
        x.takeBack(5, 5);
        due("the slot keeps it", x.restore(1), 1);
        due("all is as saved", stateOf(x), saved);
        due("the pad is not restored", x.wipe(), 3);
        due("count(9)", x.count(9), 6);
        due("undo()", x.undo(), 5);
        due("at(5, 5, 2)", x.at(5, 5, 2), NONE);
    }

    public static void main(String[] args) {
        Runnable[] promises = {PromisesTest::promise1, PromisesTest::promise2, PromisesTest::promise3,
            PromisesTest::promise4, PromisesTest::promise5, PromisesTest::promise6, PromisesTest::promise7,
            PromisesTest::promise8, PromisesTest::promise9, PromisesTest::promise10, PromisesTest::promise11,
            PromisesTest::promise12, PromisesTest::promise13, PromisesTest::promise14, PromisesTest::promise15,
            PromisesTest::promise16, PromisesTest::promise17, PromisesTest::promise18, PromisesTest::promise19,
            PromisesTest::promise20, PromisesTest::promise21, PromisesTest::promise22, PromisesTest::promise23,
            PromisesTest::promise24, PromisesTest::promise25, PromisesTest::promise26, PromisesTest::promise27,
            PromisesTest::promise28};
        for (int i = 0; i < promises.length; i++) {
            about = "promise " + (i + 1);
            try {
                promises[i].run();
            } catch (RuntimeException e) {
                failed++;
                System.out.println(about + ": threw " + e);
            }
        }
        System.out.println(passed + " answers as due, " + failed + " not");
        if (failed != 0) System.exit(1);
    }
}
