/** The boundaries of promises 11 to 16: what there is. */
public final class QuestionBoundariesTest extends Checks {

    private static PlateWriters writersWithoutPlate() {
        PlateWriters x = new PlateWriters();
        x.writer(1);
        x.writer(5);
        return x;
    }

    /** A row of letters at such columns, all of full light. */
    private static PlateWriters rowOfLetters(int row, int... columns) {
        PlateWriters x = clearDesk(5);
        for (int column : columns) x.write(0, row, column, 0);
        return x;
    }

    private static final int[] ALL_COLUMNS = {0, 1, 2, 3, 4, 5, 6, 7, 8, 9, 10, 11};

    // ---- promise 11: at

    @Boundary(of = 11, says = "Returns the number; NO_SUCH if there is no plate or no such place")
    static void atNoPlace() {
        for (int[] p : NO_PLACES)
            for (int what = 0; what < 7; what++) {
                int asked = what;
                refused("at " + p[0] + ", " + p[1], d -> d.at(p[0], p[1], asked), NO_SUCH);
            }
    }

    @Boundary(of = 11, says = "NO_SUCH if there is no plate or no such place")
    static void atNoPlate() {
        for (int what = 0; what < 7; what++) {
            int asked = what;
            stays("at", QuestionBoundariesTest::writersWithoutPlate, d -> d.at(0, 0, asked), NO_SUCH);
        }
    }

    @Boundary(of = 11, says = "BAD_VALUE if what is out of range")
    static void atWithABadWhat() {
        for (int what : new int[] {-1, 7, MIN, MAX}) {
            refused("at, what " + what, d -> d.at(0, 0, what), BAD_VALUE);
            refused("at a letter, what " + what, d -> d.at(5, 5, what), BAD_VALUE);
        }
    }

    @Boundary(of = 11, says = "NO_SUCH if there is no plate or no such place; BAD_VALUE if what is out of range")
    static void noPlaceIsToldAheadOfABadWhat() {
        for (int what : new int[] {-1, 7, MIN, MAX}) {
            due("at(10, 0, " + what + ")", busyDesk().at(10, 0, what), NO_SUCH);
            due("at(0, 12, " + what + ")", busyDesk().at(0, 12, what), NO_SUCH);
            due("without a plate", writersWithoutPlate().at(0, 0, what), NO_SUCH);
        }
    }

    @Boundary(of = 11, says = {"Returns something about a place.", "`what`: 0 its letter (NONE)"})
    static void theLetterOfAPlace() {
        PlateWriters x = desk(1);
        for (int[] p : CORNERS) {
            due("without one", x.at(p[0], p[1], 0), NONE);
            x.write(0, p[0], p[1], 0);
            due("the first one", x.at(p[0], p[1], 0), 0);
            x.rub(p[0], p[1]);
            due("rubbed out", x.at(p[0], p[1], 0), NONE);
            x.write(0, p[0], p[1], 25);
            due("the last one", x.at(p[0], p[1], 0), 25);
        }
    }

    @Boundary(of = 11, says = "1 the writer of it (NONE)")
    static void theWriterOfAPlace() {
        PlateWriters x = desk(1, 1, 1, 1, 1);
        due("without a letter", x.at(9, 11, 1), NONE);
        x.promise(4, 9, 11);
        due("promised is not written", x.at(9, 11, 1), NONE);
        x.write(4, 9, 11, 0);
        due("the last writer", x.at(9, 11, 1), 4);
        x.write(0, 0, 0, 0);
        due("the first writer", x.at(0, 0, 1), 0);
        x.rub(9, 11);
        due("rubbed out", x.at(9, 11, 1), NONE);
    }

    @Boundary(of = 11, says = "2 the writer to whom it is promised (NONE)")
    static void theWriterToWhomItIsPromised() {
        PlateWriters x = desk(1, 1, 1, 1, 1);
        due("not promised", x.at(9, 11, 2), NONE);
        x.promise(4, 9, 11);
        due("to the last writer", x.at(9, 11, 2), 4);
        x.promise(0, 0, 0);
        due("to the first writer", x.at(0, 0, 2), 0);
        x.takeBack(9, 11);
        due("taken back", x.at(9, 11, 2), NONE);
        x.write(0, 0, 0, 0);
        due("written", x.at(0, 0, 2), NONE);
    }

    @Boundary(of = 11, says = "3 the bits of its light")
    static void theBitsOfLight() {
        due("full light", desk().at(9, 11, 3), 1065353216);
        for (int press = 1; press <= 5; press++)
            for (int near = 0; near <= 18; near++) {
                PlateWriters x = desk(press);
                x.set(NEAR, near);
                float light = 1.0f;
                for (int i = 0; i < 12; i++) {
                    writeAndRub(x, 1, 5, 5);
                    light = dim(light, press * near);
                    light("press " + press + ", NEAR " + near, x.at(5, 6, 3), light);
                }
            }
    }

    @Boundary(of = 11, says = "4 the bits of its light told ahead")
    static void theBitsOfLightAheadAlsoWhereALetterIs() {
        PlateWriters x = desk(5);
        x.write(0, 0, 0, 0);
        x.promise(0, 0, 1);
        light("a letter", x.at(0, 0, 4), dim(1.0f, 30));
        light("its light", x.at(0, 0, 3), 1.0f);
        light("a place without promises around", x.at(9, 11, 4), 1.0f);
    }

    @Boundary(of = 11, says = "5 whether it has room")
    static void whetherAPlaceHasRoom() {
        PlateWriters x = desk(5);
        for (int[] p : CORNERS) due("an empty place", x.at(p[0], p[1], 5), 1);
        x.write(0, 0, 0, 0);
        due("a letter", x.at(0, 0, 5), 0);
        x.promise(0, 9, 11);
        due("a promised place", x.at(9, 11, 5), 0);
        x.set(READ, 70);
        due("just enough light", x.at(0, 1, 5), 1);
        due("just enough light ahead", x.at(9, 10, 5), 1);
        x.set(READ, 71);
        due("too little light", x.at(0, 1, 5), 0);
        due("too little light ahead", x.at(9, 10, 5), 0);
        due("enough in the second ring", x.at(0, 2, 5), 1);
        x.takeBack(9, 11);
        due("taken back", x.at(9, 11, 5), 1);
    }

    @Boundary(of = 11, says = "6 whether its letter can be read (1 or 0; 0 without one)")
    static void whetherALetterCanBeRead() {
        PlateWriters x = desk(5);
        due("without one", x.at(0, 0, 6), 0);
        x.promise(0, 0, 0);
        due("promised only", x.at(0, 0, 6), 0);
        x.write(0, 0, 0, 0);
        due("full light", x.at(0, 0, 6), 1);
        x.write(0, 0, 1, 0);
        x.set(READ, 70);
        due("just enough light", x.at(0, 0, 6), 1);
        x.set(READ, 71);
        due("too little light", x.at(0, 0, 6), 0);
        x.rub(0, 0);
        due("rubbed out", x.at(0, 0, 6), 0);
    }

    @Boundary(of = 11, says = "A letter can be read if the light of its place is at least that.")
    static void aLetterCanBeReadByItsLightAndNotByThatToldAhead() {
        PlateWriters x = desk(5);
        x.write(0, 0, 0, 0);
        x.promise(0, 0, 1);
        x.set(READ, 99);
        due("at(0, 0, 6)", x.at(0, 0, 6), 1);
        light("at(0, 0, 4)", x.at(0, 0, 4), dim(1.0f, 30));
    }

    @Boundary(of = 11, says = "A letter can be read if the light of its place is at least that.")
    static void oneBitOfLightDecidesWhetherALetterCanBeRead() {
        due("a bit too dark", oneBitTooDark(true).at(4, 5, 6), 0);
        due("just bright enough", justBrightEnough(true).at(4, 5, 6), 1);
    }

    @Boundary(of = 11, says = "NONE (-6) is not an error; it is returned only if no error applies.")
    static void errorsAreToldAheadOfNone() {
        due("at(10, 0, 0)", desk().at(10, 0, 0), NO_SUCH);
        due("at(0, 0, 7)", desk().at(0, 0, 7), BAD_VALUE);
        due("at(0, 0, 0)", desk().at(0, 0, 0), NONE);
        due("bestPlace() without a plate", new PlateWriters().bestPlace(), NO_SUCH);
        due("whoDims(10, 0)", desk(5).whoDims(10, 0), NO_SUCH);
        due("whoDims(0, 0)", desk(5).whoDims(0, 0), NONE);
        due("count(10)", new PlateWriters().count(10), BAD_VALUE);
        due("count(2)", new PlateWriters().count(2), NONE);
        PlateWriters x = desk(1, 5);
        x.write(0, 0, 0, 0);
        x.write(1, 0, 1, 0);
        x.set(READ, 99);
        x.set(CLEAR, 0);
        due("readableIn(1)", x.readableIn(1), NO_SUCH);
        due("readableIn(0)", x.readableIn(0), NONE);
    }

    // ---- promise 12: row

    @Boundary(of = 12, says = "Returns the number; NO_SUCH if there is no plate or no such row")
    static void noSuchRow() {
        for (int row : new int[] {-1, 10, NONE, MIN, MAX})
            for (int what = 0; what < 5; what++) {
                int asked = what;
                refused("row(" + row + ")", d -> d.row(row, asked), NO_SUCH);
            }
    }

    @Boundary(of = 12, says = "NO_SUCH if there is no plate or no such row")
    static void rowOfNoPlate() {
        for (int what = 0; what < 5; what++) {
            int asked = what;
            stays("row", QuestionBoundariesTest::writersWithoutPlate, d -> d.row(0, asked), NO_SUCH);
        }
    }

    @Boundary(of = 12, says = "BAD_VALUE if what is out of range")
    static void rowWithABadWhat() {
        for (int what : new int[] {-1, 5, MIN, MAX}) refused("row, what " + what, d -> d.row(5, what), BAD_VALUE);
    }

    @Boundary(of = 12, says = "NO_SUCH if there is no plate or no such row; BAD_VALUE if what is out of range")
    static void noRowIsToldAheadOfABadWhat() {
        for (int what : new int[] {-1, 5, MIN, MAX}) {
            due("row(10, " + what + ")", busyDesk().row(10, what), NO_SUCH);
            due("row(-1, " + what + ")", busyDesk().row(-1, what), NO_SUCH);
            due("without a plate", writersWithoutPlate().row(0, what), NO_SUCH);
        }
    }

    @Boundary(of = 12, says = {"Returns something about a row.", "each as a set"})
    static void anEmptyRow() {
        int[] want = {0, 0, 0, 4095, 0};
        for (int row : new int[] {0, 9})
            for (int what = 0; what < 5; what++)
                due("row(" + row + ", " + what + ")", desk(5).row(row, what), want[what]);
    }

    @Boundary(of = 12, says = "0 columns with a letter, 1 with one that can be read")
    static void aRowFullOfLetters() {
        int[] want = {4095, 4095, 0, 0, 12};
        for (int row : new int[] {0, 9}) {
            PlateWriters x = rowOfLetters(row, ALL_COLUMNS);
            for (int what = 0; what < 5; what++) due("row(" + row + ", " + what + ")", x.row(row, what), want[what]);
            for (int other = 0; other < 10; other++) if (other != row) due("row(" + other + ", 0)", x.row(other, 0), 0);
        }
    }

    @Boundary(of = 12, says = "2 promised, 3 with room, each as a set")
    static void aRowFullOfPromises() {
        int[] want = {0, 0, 4095, 0, 0};
        for (int row : new int[] {0, 9}) {
            PlateWriters x = clearDesk(5);
            for (int column : ALL_COLUMNS) x.promise(0, row, column);
            for (int what = 0; what < 5; what++) due("row(" + row + ", " + what + ")", x.row(row, what), want[what]);
        }
    }

    @Boundary(of = 12, says = "Sets of columns and writers are bit masks.")
    static void theFirstAndTheLastColumn() {
        PlateWriters x = desk(5);
        x.write(0, 9, 0, 0);
        x.promise(0, 9, 11);
        due("row(9, 0)", x.row(9, 0), 1);
        due("row(9, 1)", x.row(9, 1), 1);
        due("row(9, 2)", x.row(9, 2), 1 << 11);
        due("row(9, 3)", x.row(9, 3), 4095 - 1 - (1 << 11));
    }

    @Boundary(of = 12, says = "1 with one that can be read")
    static void lettersOfARowWithJustEnoughLight() {
        PlateWriters x = desk(5);
        x.write(0, 3, 4, 0);
        x.write(0, 3, 5, 0);
        x.set(READ, 70);
        due("row(3, 1) with READ 70", x.row(3, 1), 3 << 4);
        due("row(3, 4) with READ 70", x.row(3, 4), 2);
        x.set(READ, 71);
        due("row(3, 0) with READ 71", x.row(3, 0), 3 << 4);
        due("row(3, 1) with READ 71", x.row(3, 1), 0);
        due("row(3, 4) with READ 71", x.row(3, 4), 0);
    }

    @Boundary(of = 12, says = "3 with room")
    static void placesOfARowWithJustEnoughLightAhead() {
        PlateWriters x = desk(5);
        x.promise(0, 3, 4);
        int around = 1 << 3 | 1 << 5, promised = 1 << 4;
        x.set(READ, 70);
        due("row(3, 3) with READ 70", x.row(3, 3), 4095 - promised);
        x.set(READ, 71);
        due("row(3, 3) with READ 71", x.row(3, 3), 4095 - promised - around);
        due("row(2, 3) with READ 71", x.row(2, 3), 4095 - promised - around);
        due("row(1, 3) with READ 71", x.row(1, 3), 4095);
    }

    @Boundary(of = 12, says = "4 the length of the longest word: letters that can be read, side by side")
    static void wordsAtBothEndsOfARow() {
        due("one letter at the start", rowOfLetters(9, 0).row(9, 4), 1);
        due("one letter at the end", rowOfLetters(9, 11).row(9, 4), 1);
        due("both", rowOfLetters(9, 0, 11).row(9, 4), 1);
        due("the longer one at the start", rowOfLetters(9, 0, 1, 2, 10, 11).row(9, 4), 3);
        due("the longer one at the end", rowOfLetters(9, 0, 1, 9, 10, 11).row(9, 4), 3);
        due("the longer one in the middle", rowOfLetters(9, 0, 4, 5, 11).row(9, 4), 2);
        due("two that are as long", rowOfLetters(9, 3, 4, 6, 7).row(9, 4), 2);
        due("all but one", rowOfLetters(9, 0, 1, 2, 3, 4, 5, 6, 7, 8, 9, 10).row(9, 4), 11);
        due("each second one", rowOfLetters(9, 0, 2, 4, 6, 8, 10).row(9, 4), 1);
    }

    @Boundary(of = 12, says = "letters that can be read, side by side")
    static void aWordEndsWithItsRow() {
        PlateWriters x = clearDesk(5);
        for (int column = 6; column < 12; column++) x.write(0, 3, column, 0);
        for (int column = 0; column < 4; column++) x.write(0, 4, column, 0);
        due("row(3, 4)", x.row(3, 4), 6);
        due("row(4, 4)", x.row(4, 4), 4);
    }

    @Boundary(of = 12, says = "letters that can be read, side by side")
    static void aLetterThatCannotBeReadEndsAWord() {
        PlateWriters x = rowOfLetters(9, ALL_COLUMNS);
        x.set(NEAR, 18);
        x.set(READ, 11);
        x.write(0, 7, 5, 0);
        due("all of a row that is two away", x.row(9, 4), 12);
        x.set(READ, 10);
        x.write(0, 8, 11, 0);
        due("just enough light", x.row(9, 4), 12);
        x.set(READ, 11);
        due("too little light at the end", x.row(9, 4), 10);
    }

    // ---- promise 13: of

    @Boundary(of = 13, says = "Returns the number; NO_SUCH if there is no such writer")
    static void ofNoWriter() {
        for (int writer : new int[] {-1, 2, 5, NONE, MIN, MAX})
            for (int what : new int[] {0, 1, 5}) refused("of(" + writer + ")", d -> d.of(writer, what), NO_SUCH);
        stays("of(0, 0)", () -> desk(), d -> d.of(0, 0), NO_SUCH);
    }

    @Boundary(of = 13, says = "BAD_VALUE if what is out of range")
    static void ofWithABadWhat() {
        for (int what : new int[] {-1, 6, MIN, MAX}) refused("of, what " + what, d -> d.of(0, what), BAD_VALUE);
    }

    @Boundary(of = 13, says = "NO_SUCH if there is no such writer; BAD_VALUE if what is out of range")
    static void noWriterIsToldAheadOfABadWhat() {
        for (int what : new int[] {-1, 6, MIN, MAX}) {
            due("of(2, " + what + ")", busyDesk().of(2, what), NO_SUCH);
            due("of(-1, " + what + ")", busyDesk().of(-1, what), NO_SUCH);
        }
    }

    @Boundary(of = 13, says = "`what`: 0 how hard it presses")
    static void theFirstAndTheLastWriter() {
        PlateWriters x = new PlateWriters();
        int[] press = {1, 5, 2, 4, 3};
        for (int it : press) x.writer(it);
        for (int who = 0; who < 5; who++) due("of(" + who + ", 0)", x.of(who, 0), press[who]);
        due("of(5, 0)", x.of(5, 0), NO_SUCH);
    }

    @Boundary(of = 13, says = "Returns something about a writer, on all plates.")
    static void lettersOnAllPlates() {
        PlateWriters x = new PlateWriters();
        x.writer(1);
        x.writer(5);
        for (int plate = 0; plate < 4; plate++) {
            x.plate();
            for (int[] p : CORNERS) x.write(plate == 3 ? 1 : 0, p[0], p[1], 0);
            x.promise(0, 5, 5);
            x.promise(1, 5, 9);
        }
        int[][] want = {{1, 12, 12, 4, 12, 0}, {5, 4, 4, 4, 4, 0}};
        for (int who = 0; who < 2; who++)
            for (int what = 0; what < 6; what++) due("of(" + who + ", " + what + ")", x.of(who, what), want[who][what]);
    }

    @Boundary(of = 13, says =
        "1 its letters, 2 those that can be read, 3 its promised places, 4 letters written so far")
    static void aFullPlateOfOneWriter() {
        PlateWriters x = clearDesk(1, 5);
        writeAll(x, 1);
        int[] full = {5, 120, 120, 0, 120, 0};
        for (int what = 0; what < 6; what++) due("of(1, " + what + ")", x.of(1, what), full[what]);
        for (int what = 1; what < 6; what++) due("of(0, " + what + ")", x.of(0, what), 0);
        for (int place = 0; place < 120; place++) x.rub(place / 12, place % 12);
        int[] rubbed = {5, 0, 0, 0, 120, 0};
        for (int what = 0; what < 6; what++) due("rubbed, of(1, " + what + ")", x.of(1, what), rubbed[what]);
    }

    @Boundary(of = 13, says = "2 those that can be read")
    static void lettersOfAWriterWithJustEnoughLight() {
        PlateWriters x = desk(5);
        x.write(0, 4, 4, 0);
        x.write(0, 4, 5, 0);
        x.set(READ, 70);
        due("of(0, 2) with READ 70", x.of(0, 2), 2);
        x.set(READ, 71);
        due("of(0, 2) with READ 71", x.of(0, 2), 0);
        due("of(0, 1) with READ 71", x.of(0, 1), 2);
    }

    @Boundary(of = 13, says = "3 its promised places")
    static void promisesThatAreOverDoNotCount() {
        PlateWriters x = desk(1, 1);
        x.promise(1, 0, 0);
        x.promise(1, 9, 11);
        due("of(1, 3)", x.of(1, 3), 2);
        due("of(0, 3)", x.of(0, 3), 0);
        x.takeBack(0, 0);
        x.write(1, 9, 11, 0);
        due("of(1, 3)", x.of(1, 3), 0);
    }

    @Boundary(of = 13, says = "4 letters written so far")
    static void lettersThatWereRefusedAreNotWritten() {
        PlateWriters x = desk(1);
        x.write(0, 0, 0, 0);
        x.write(0, 0, 0, 0);
        x.write(0, 0, 1, 26);
        x.write(0, 0, 12, 0);
        due("of(0, 4)", x.of(0, 4), 1);
        x.rub(0, 0);
        due("of(0, 4) behind a rub", x.of(0, 4), 1);
        due("of(0, 1) behind a rub", x.of(0, 1), 0);
    }

    @Boundary(of = 13, says =
        "5 those that could be read ahead of a letter of it, and not behind that, so far, each time")
    static void aLetterThatIsSpoiledTwiceCountsTwice() {
        PlateWriters x = desk(1, 5);
        x.write(0, 4, 4, 0);
        x.set(READ, 71);
        due("spoiled", x.write(1, 4, 5, 0), 1);
        x.plate();
        x.pass(1);
        x.lay(0);
        due("cleared", x.at(4, 4, 6), 1);
        due("spoiled again", x.write(1, 4, 3, 0), 1);
        due("of(1, 5)", x.of(1, 5), 2);
        due("of(0, 5)", x.of(0, 5), 0);
        x.rub(4, 4);
        due("of(1, 5) behind a rub", x.of(1, 5), 2);
    }

    @Boundary(of = 13, says =
        "5 those that could be read ahead of a letter of it, and not behind that, so far, each time")
    static void whatIsSpoiledIsToldOfWhoSpoilsIt() {
        PlateWriters x = desk(1, 5, 1);
        x.write(2, 4, 4, 0);
        x.write(0, 4, 6, 0);
        x.set(READ, 71);
        due("spoiled", x.write(1, 4, 5, 0), 2);
        for (int who = 0; who < 3; who++) due("of(" + who + ", 5)", x.of(who, 5), who == 1 ? 2 : 0);
    }

    // ---- promise 14: ofPlate

    @Boundary(of = 14, says = "Returns the number; NO_SUCH if there is no such plate")
    static void ofNoPlate() {
        for (int plate : new int[] {-1, 2, 4, NONE, MIN, MAX})
            for (int what = 0; what < 6; what++) {
                int asked = what;
                refused("ofPlate(" + plate + ")", d -> d.ofPlate(plate, asked), NO_SUCH);
            }
        stays("ofPlate(0, 0)", PlateWriters::new, d -> d.ofPlate(0, 0), NO_SUCH);
        stays("ofPlate(NONE, 0)", PlateWriters::new, d -> d.ofPlate(NONE, 0), NO_SUCH);
    }

    @Boundary(of = 14, says = "BAD_VALUE if what is out of range")
    static void ofPlateWithABadWhat() {
        for (int what : new int[] {-1, 6, MIN, MAX})
            refused("ofPlate, what " + what, d -> d.ofPlate(1, what), BAD_VALUE);
    }

    @Boundary(of = 14, says = "NO_SUCH if there is no such plate; BAD_VALUE if what is out of range")
    static void noPlateIsToldAheadOfABadWhat() {
        for (int what : new int[] {-1, 6, MIN, MAX}) {
            due("ofPlate(2, " + what + ")", busyDesk().ofPlate(2, what), NO_SUCH);
            due("ofPlate(-1, " + what + ")", busyDesk().ofPlate(-1, what), NO_SUCH);
        }
    }

    @Boundary(of = 14, says = "Returns something about a plate.")
    static void anEmptyPlate() {
        int[] want = {0, 0, 0, 120, Float.floatToIntBits(1.0f), Float.floatToIntBits(120.0f)};
        PlateWriters x = new PlateWriters();
        for (int plate = 0; plate < 4; plate++) x.plate();
        for (int plate = 0; plate < 4; plate++)
            for (int what = 0; what < 6; what++)
                due("ofPlate(" + plate + ", " + what + ")", x.ofPlate(plate, what), want[what]);
    }

    @Boundary(of = 14, says = "`what`: 0 letters, 1 those that can be read, 2 promised places, 3 places with room")
    static void aFullPlate() {
        PlateWriters x = clearDesk(1);
        writeAll(x, 0);
        int[] letters = {120, 120, 0, 0};
        for (int what = 0; what < 4; what++) due("ofPlate(0, " + what + ")", x.ofPlate(0, what), letters[what]);
        x = clearDesk(1);
        promiseAll(x, 0);
        int[] promised = {0, 0, 120, 0};
        for (int what = 0; what < 4; what++) due("ofPlate(0, " + what + ")", x.ofPlate(0, what), promised[what]);
    }

    @Boundary(of = 14, says = "1 those that can be read")
    static void lettersOfAPlateWithJustEnoughLight() {
        PlateWriters x = desk(5);
        x.write(0, 0, 0, 0);
        x.write(0, 0, 1, 0);
        x.plate();
        x.set(READ, 70);
        due("ofPlate(0, 1) with READ 70", x.ofPlate(0, 1), 2);
        x.set(READ, 71);
        due("ofPlate(0, 1) with READ 71", x.ofPlate(0, 1), 0);
        due("ofPlate(1, 0)", x.ofPlate(1, 0), 0);
    }

    @Boundary(of = 14, says = "3 places with room")
    static void placesOfAPlateWithJustEnoughLightAhead() {
        PlateWriters x = desk(5);
        x.promise(0, 0, 0);
        x.set(READ, 70);
        due("ofPlate(0, 3) with READ 70", x.ofPlate(0, 3), 119);
        x.set(READ, 71);
        due("ofPlate(0, 3) with READ 71", x.ofPlate(0, 3), 119 - 3);
        x.set(READ, 90);
        due("ofPlate(0, 3) with READ 90", x.ofPlate(0, 3), 119 - 3);
        x.set(READ, 91);
        due("ofPlate(0, 3) with READ 91", x.ofPlate(0, 3), 119 - 8);
    }

    @Boundary(of = 14, says = "4 the bits of its least light")
    static void eachPlaceAsTheOnlyDarkestOne() {
        for (int place = 0; place < 120; place++) {
            int row = place / 12, column = place % 12;
            int left = column == 0 ? 1 : column - 1, right = column == 11 ? 10 : column + 1;
            int above = row == 0 ? 1 : row - 1, below = row == 9 ? 8 : row + 1;
            PlateWriters x = desk(5);
            x.set(FAR, 0);
            x.write(0, row, left, 0);
            if (left != right) x.write(0, row, right, 0);
            x.write(0, above, column, 0);
            if (left == right) x.write(0, below, above == below ? left : column, 0);
            float darkest = dim(dim(dim(1.0f, 30), 30), 30);
            for (int other = 0; other < 120; other++)
                due("place " + other + " beside " + place, lightOf(x, other) <= darkest ? 1 : 0, other == place ? 1 : 0);
            light("ofPlate(0, 4)", x.ofPlate(0, 4), darkest);
        }
    }

    /** Lights of so many kinds that their sums depend on the order. */
    private static PlateWriters manyLights() {
        PlateWriters x = desk(5, 3, 1);
        x.set(NEAR, 13);
        x.set(FAR, 7);
        x.set(READ, 1);
        for (int place = 1; place < 120; place += 7) x.write(place % 3, place / 12, place % 12, 0);
        return x;
    }

    @Boundary(of = 14, says = "5 the bits of the sum of all its light, added row by row from 0.0f on")
    static void lightIsAddedRowByRow() {
        PlateWriters x = manyLights();
        float sum = 0.0f, columns = 0.0f, backwards = 0.0f;
        double exact = 0.0;
        for (int place = 0; place < 120; place++) {
            sum += lightOf(x, place);
            columns += lightOf(x, place % 10 * 12 + place / 10);
            backwards += lightOf(x, 119 - place);
            exact += lightOf(x, place);
        }
        sure("another order would tell something else", sum != columns && sum != backwards && sum != (float) exact);
        light("ofPlate(0, 5)", x.ofPlate(0, 5), sum);
        x.plate();
        light("aside also", x.ofPlate(0, 5), sum);
    }

    // ---- promise 15: count

    @Boundary(of = 15, says = "Returns the number; BAD_VALUE if what is out of range")
    static void countWithABadWhat() {
        for (int what : new int[] {-1, 10, 11, MIN, MAX}) refused("count(" + what + ")", d -> d.count(what), BAD_VALUE);
        stays("count(10) of nothing", PlateWriters::new, d -> d.count(10), BAD_VALUE);
    }

    @Boundary(of = 15, says = {
        "Returns a number.",
        "`what`: 0 hours so far, 1 plates, 2 the one on the desk (NONE), 3 writers, 4 to 7 the settings, 8 the "
            + "length of the pad, 9 how many changes can be undone"})
    static void countsAreTheMost() {
        PlateWriters x = new PlateWriters();
        for (int i = 0; i < 208; i++) x.pass(48);
        x.pass(15);
        for (int i = 0; i < 4; i++) x.plate();
        for (int i = 0; i < 5; i++) x.writer(5);
        int[] most = {18, 9, 99, 50};
        for (int i = 0; i < 4; i++) x.set(i, most[i]);
        put(x, repeated("n", 80, ""));
        int[] want = {9999, 4, 3, 5, 18, 9, 99, 50, 80, 6};
        for (int what = 0; what < 10; what++) due("count(" + what + ")", x.count(what), want[what]);
    }

    @Boundary(of = 15, says = "2 the one on the desk (NONE)")
    static void thePlateOnTheDesk() {
        PlateWriters x = new PlateWriters();
        due("none", x.count(2), NONE);
        x.plate();
        due("the first", x.count(2), 0);
        x.plate();
        due("the second", x.count(2), 1);
        x.lay(0);
        due("laid there", x.count(2), 0);
        for (int i = 0; i < 3; i++) x.undo();
        due("none again", x.count(2), NONE);
    }

    // ---- promise 16: mean

    @Boundary(of = 16, says = "Returns the bits, as Double.doubleToLongBits tells them (of 0.0 without a plate).")
    static void theMeanWithoutAPlate() {
        stays("mean()", QuestionBoundariesTest::writersWithoutPlate, d -> d.mean(), 0L);
    }

    @Boundary(of = 16, says = "Returns the mean light of the plate on the desk, as a double")
    static void theMeanOfFullLight() {
        PlateWriters x = desk(5);
        due("mean()", x.mean(), Double.doubleToLongBits(1.0));
        x.write(0, 0, 0, 0);
        x.plate();
        due("of the plate on the desk", x.mean(), Double.doubleToLongBits(1.0));
    }

    @Boundary(of = 16, says =
        "the sum of all its light, each cast to a double, added row by row from 0.0 on, divided by 120.0")
    static void theMeanIsReckonedInDoubles() {
        PlateWriters x = manyLights();
        double sum = 0.0;
        float floats = 0.0f;
        for (int place = 0; place < 120; place++) {
            sum += (double) lightOf(x, place);
            floats += lightOf(x, place);
        }
        sure("a sum of floats would tell something else", sum != floats);
        due("mean()", x.mean(), Double.doubleToLongBits(sum / 120.0));
    }

    @Boundary(of = 16, says =
        "the sum of all its light, each cast to a double, added row by row from 0.0 on, divided by 120.0")
    static void theMeanIsReckonedRowByRow() {
        PlateWriters x = desk(5);
        x.set(NEAR, 18);
        x.set(FAR, 0);
        writeAndRub(x, 8, 0, 11);
        double sum = 0.0, backwards = 0.0, byColumns = 0.0;
        for (int i = 0; i < 120; i++) {
            sum += (double) lightOf(x, i);
            backwards += (double) lightOf(x, 119 - i);
            byColumns += (double) lightOf(x, i % 10 * 12 + i / 10);
        }
        sure("the order decides", sum / 120.0 != backwards / 120.0 && sum / 120.0 != byColumns / 120.0);
        due("mean()", x.mean(), Double.doubleToLongBits(sum / 120.0));
    }

    @Boundary(of = 16, says = "Light is told as a float from 0.0f to 1.0f")
    static void theMeanOfADarkPlate() {
        PlateWriters x = desk(5);
        x.set(NEAR, 18);
        x.set(FAR, 9);
        x.set(READ, 1);
        for (int round = 0; round < 8; round++)
            for (int i = 0; i < 12; i++) writeAndRub(x, 1, 1 + i / 4 * 3, 1 + i % 4 * 3);
        double sum = 0.0;
        for (int place = 0; place < 120; place++) sum += (double) lightOf(x, place);
        sure("it is dark", sum / 120.0 < 0.125);
        due("mean()", x.mean(), Double.doubleToLongBits(sum / 120.0));
    }

    @Boundary(of = 16, says = "Returns the bits, as Double.doubleToLongBits tells them")
    static void sumsAndMeansFromFullLightToLittle() {
        for (int letters = 0; letters <= 120; letters += 3) {
            PlateWriters x = desk(5);
            x.set(READ, 1);
            x.set(NEAR, letters % 2 == 0 ? 18 : 6);
            x.set(FAR, letters % 4);
            for (int place = 0; place < letters; place++) x.write(0, place / 12, place % 12, 0);
            double mean = 0.0;
            float sum = 0.0f, least = 1.0f;
            for (int place = 0; place < 120; place++) {
                float light = lightOf(x, place);
                mean += (double) light;
                sum += light;
                least = light < least ? light : least;
            }
            due("mean()", x.mean(), Double.doubleToLongBits(mean / 120.0));
            light("ofPlate(0, 5)", x.ofPlate(0, 5), sum);
            light("ofPlate(0, 4)", x.ofPlate(0, 4), least);
        }
    }

    /** Takes, round by round, half of the light of so many rings that do not meet; halves are no rounded floats. */
    private static PlateWriters halved(int... rings) {
        PlateWriters x = desk(5);
        x.set(NEAR, 10);
        x.set(FAR, 0);
        for (int many : rings)
            for (int i = 0; i < many; i++) writeAndRub(x, 1, 1 + i / 4 * 3, 1 + i % 4 * 3);
        return x;
    }

    @Boundary(of = 16, says = "Returns the bits, as Double.doubleToLongBits tells them")
    static void sumsAndMeansThatAreJustAPowerOfTwo() {
        light("half of each ring", halved(12).ofPlate(0, 5), 72.0f);
        light("sum 64", halved(12, 4).ofPlate(0, 5), 64.0f);
        light("sum 32", halved(12, 12, 12, 8).ofPlate(0, 5), 32.0f);
        due("mean 0.5", halved(12, 6).mean(), Double.doubleToLongBits(0.5));
    }

    public static void main(String[] args) {
        runAll(QuestionBoundariesTest.class);
    }
}
