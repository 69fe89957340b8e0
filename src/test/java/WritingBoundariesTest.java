/** The boundaries of promises 6 to 9: to write, to promise, to take back and to rub out. */
public final class WritingBoundariesTest extends Checks {

    private static PlateWriters writersWithoutPlate() {
        PlateWriters x = new PlateWriters();
        x.writer(1);
        x.writer(5);
        return x;
    }

    /** 0 the place itself, 1 the first ring, 2 the second ring, 3 none of them. */
    private static int ring(int place, int other) {
        int rows = Math.abs(place / 12 - other / 12), columns = Math.abs(place % 12 - other % 12);
        return rows == 0 && columns == 0 ? 0 : rows <= 1 && columns <= 1 ? 1 : rows <= 2 && columns <= 2 ? 2 : 3;
    }

    // ---- promise 6: write

    @Boundary(of = 6, says = {
        "A call that returns an error changes nothing.",
        "NO_SUCH if there is no such writer, no plate or no such place"})
    static void writeOfNoWriter() {
        for (int writer : new int[] {-1, 2, 3, 5, NONE, MIN, MAX})
            refused("write(" + writer + ")", d -> d.write(writer, 0, 0, 0), NO_SUCH);
        stays("write without writers", () -> desk(), d -> d.write(0, 0, 0, 0), NO_SUCH);
    }

    @Boundary(of = 6, says = "NO_SUCH if there is no such writer, no plate or no such place")
    static void writeOnNoPlate() {
        stays("write", WritingBoundariesTest::writersWithoutPlate, d -> d.write(0, 0, 0, 0), NO_SUCH);
    }

    @Boundary(of = 6, says = "NO_SUCH if there is no such writer, no plate or no such place")
    static void writeAtNoPlace() {
        for (int[] p : NO_PLACES)
            refused("write at " + p[0] + ", " + p[1], d -> d.write(0, p[0], p[1], 0), NO_SUCH);
    }

    @Boundary(of = 6, says = "Everything is numbered from 0.")
    static void theFirstAndTheLastWriterAndPlace() {
        PlateWriters x = desk(1, 2, 3, 4, 5);
        for (int[] p : CORNERS) {
            due("write(0)", x.write(0, p[0], p[1], 0), 0);
            due("at 1", x.at(p[0], p[1], 1), 0);
        }
        due("write(4)", x.write(4, 5, 5, 0), 0);
        due("at 1", x.at(5, 5, 1), 4);
        due("write(5)", x.write(5, 7, 7, 0), NO_SUCH);
    }

    @Boundary(of = 6, says = "BAD_VALUE if letter is out of range")
    static void letterOutOfRange() {
        for (int letter : new int[] {-1, 26, NONE, MIN, MAX})
            refused("letter " + letter, d -> d.write(0, 0, 0, letter), BAD_VALUE);
    }

    @Boundary(of = 6, says = "`letter`: 0 to 25")
    static void theFirstAndTheLastLetter() {
        PlateWriters x = desk(1);
        for (int letter = 0; letter < 26; letter++) {
            due("write", x.write(0, letter / 12, letter % 12, letter), 0);
            due("at 0", x.at(letter / 12, letter % 12, 0), letter);
        }
    }

    @Boundary(of = 6, says = "NOT_POSSIBLE if the place has a letter")
    static void writeWhereALetterIs() {
        refused("on its own letter", d -> d.write(1, 5, 5, 7), NOT_POSSIBLE);
        refused("on that of another one", d -> d.write(0, 5, 5, 0), NOT_POSSIBLE);
        for (int[] p : CORNERS) {
            PlateWriters x = desk(1);
            due("write", x.write(0, p[0], p[1], 0), 0);
            due("write again", x.write(0, p[0], p[1], 1), NOT_POSSIBLE);
            x.rub(p[0], p[1]);
            due("write behind rub", x.write(0, p[0], p[1], 1), 0);
        }
    }

    @Boundary(of = 6, says = "NOT_POSSIBLE if the place has a letter, or is promised to another one")
    static void writeWhereItIsPromisedToAnotherOne() {
        refused("promised to 0", d -> d.write(1, 2, 9, 0), NOT_POSSIBLE);
        refused("promised to 1", d -> d.write(0, 7, 2, 0), NOT_POSSIBLE);
        due("promised to 0 itself", busyDesk().write(0, 2, 9, 0), 0);
        due("promised to 1 itself", busyDesk().write(1, 7, 2, 0), 0);
    }

    @Boundary(of = 6, says = "or its light is not at least (float) READ / 100.0f")
    static void justEnoughLightToWrite() {
        for (int press = 1; press <= 5; press++)
            for (int near = 0; near <= 18; near++) {
                int left = 100 - press * near;
                PlateWriters x = desk(press);
                x.set(NEAR, near);
                x.write(0, 4, 4, 0);
                if (left < 99) {
                    x.set(READ, left + 1);
                    due("light " + left + ", READ one more", x.write(0, 4, 5, 0), NOT_POSSIBLE);
                }
                x.set(READ, Math.min(left, 99));
                due("light " + left + ", READ as much", x.write(0, 4, 5, 0) >= 0 ? 0 : -1, 0);
            }
    }

    @Boundary(of = 6, says = "or its light is not at least (float) READ / 100.0f")
    static void tooLittleLightChangesNothing() {
        stays("write", () -> {
            PlateWriters d = busyDesk();
            d.set(READ, 95);
            sure("the place has light 0.94", lightOf(d, 66) == 94.0f / 100.0f);
            return d;
        }, d -> d.write(1, 5, 6, 0), NOT_POSSIBLE);
    }

    @Boundary(of = 6, says = "or its light is not at least (float) READ / 100.0f")
    static void tooLittleLightWhereItIsPromisedToItself() {
        PlateWriters x = desk(5);
        x.promise(0, 4, 4);
        x.write(0, 4, 5, 0);
        x.set(READ, 71);
        due("write with READ 71", x.write(0, 4, 4, 0), NOT_POSSIBLE);
        due("it is promised yet", x.at(4, 4, 2), 0);
        x.set(READ, 70);
        due("write with READ 70", x.write(0, 4, 4, 0), 0);
    }

    @Boundary(of = 6, says = "or its light is not at least (float) READ / 100.0f")
    static void theLightToldAheadDoesNotMatter() {
        PlateWriters x = desk(5);
        x.promise(0, 4, 4);
        x.set(READ, 71);
        due("at(4, 5, 5)", x.at(4, 5, 5), 0);
        due("write(0, 4, 5, 0)", x.write(0, 4, 5, 0), 0);
    }

    @Boundary(of = 6, says = "or its light is not at least (float) READ / 100.0f")
    static void oneBitOfLightDecidesAWrite() {
        due("a bit too dark", oneBitTooDark(false).write(0, 4, 5, 0), NOT_POSSIBLE);
        due("just bright enough, though it spoils the other one", justBrightEnough(false).write(0, 4, 5, 0), 1);
    }

    @Boundary(of = 6, says = "READ (1 to 99; 40): hundredths of light that a letter needs")
    static void theLeastAndTheMostLightThatIsAsked() {
        PlateWriters x = desk(1);
        x.set(READ, 99);
        due("full light, READ 99", x.write(0, 0, 0, 0), 0);
        due("a place with light 0.94, READ 99", x.write(0, 0, 1, 0), NOT_POSSIBLE);
        x = desk(5);
        x.set(NEAR, 18);
        x.set(READ, 1);
        x.write(0, 0, 0, 0);
        due("light 0.1, READ 1", x.write(0, 0, 1, 0), 0);
        light("at(1, 0, 3)", x.at(1, 0, 3), dim(dim(1.0f, 90), 90));
        sure("it is just the light that is asked", lightOf(x, 12) == 1.0f / 100.0f);
        due("light 0.01, READ 1", x.write(0, 1, 0, 0), 0);
        x = desk(5);
        x.set(NEAR, 18);
        x.set(READ, 1);
        writeAndRub(x, 3, 0, 0);
        due("light 0.001, READ 1", x.write(0, 0, 1, 0), NOT_POSSIBLE);
    }

    @Boundary(of = 6, says = {
        "it names its errors in the order in which they are checked, and the first one that applies is returned",
        "NO_SUCH if there is no such writer, no plate or no such place; BAD_VALUE if letter is out of range"})
    static void noSuchIsToldAheadOfABadLetter() {
        for (int letter : new int[] {-1, 26, MIN, MAX}) {
            refused("no writer", d -> d.write(2, 0, 0, letter), NO_SUCH);
            refused("no row", d -> d.write(0, 10, 0, letter), NO_SUCH);
            refused("no column", d -> d.write(0, 0, 12, letter), NO_SUCH);
            stays("no plate", WritingBoundariesTest::writersWithoutPlate, d -> d.write(0, 0, 0, letter), NO_SUCH);
        }
    }

    @Boundary(of = 6, says =
        "BAD_VALUE if letter is out of range; NOT_POSSIBLE if the place has a letter, or is promised to another "
            + "one, or its light is not at least (float) READ / 100.0f")
    static void aBadLetterIsToldAheadOfNotPossible() {
        for (int letter : new int[] {-1, 26, MIN, MAX}) {
            refused("where a letter is", d -> d.write(0, 5, 5, letter), BAD_VALUE);
            refused("where it is promised to another one", d -> d.write(1, 2, 9, letter), BAD_VALUE);
            PlateWriters dark = desk(5);
            dark.write(0, 0, 0, 0);
            dark.set(READ, 99);
            due("where it is dark", dark.write(0, 0, 1, letter), BAD_VALUE);
        }
    }

    @Boundary(of = 6, says = "NO_SUCH if there is no such writer, no plate or no such place")
    static void noSuchIsToldAheadOfNotPossible() {
        refused("no writer, where a letter is", d -> d.write(2, 5, 5, 0), NO_SUCH);
        refused("no writer, where it is promised", d -> d.write(-1, 2, 9, 0), NO_SUCH);
    }

    @Boundary(of = 6, says = "A writer writes a letter on the plate on the desk. This is a change.")
    static void writeIsAChange() {
        changes("write", Checks::someDesk, d -> d.write(0, 9, 11, 25), 0);
        changes("write where it is promised to it", Checks::someDesk, d -> d.write(0, 2, 9, 25), 0);
    }

    @Boundary(of = 6, says =
        "The first ring of a place are those at most one row and one column away, the second ring those at most "
            + "two rows and two columns away that are none of the first ring")
    static void theRingsOfEveryPlace() {
        for (int place = 0; place < 120; place++) {
            PlateWriters x = desk(5);
            x.write(0, place / 12, place % 12, 0);
            for (int other = 0; other < 120; other++) {
                int ring = ring(place, other);
                light("place " + other + " beside " + place, x.at(other / 12, other % 12, 3),
                        ring == 1 ? dim(1.0f, 30) : ring == 2 ? dim(1.0f, 10) : 1.0f);
            }
        }
    }

    @Boundary(of = 6, says = "at most two rows and two columns away")
    static void noRingGoesRoundAnEdge() {
        PlateWriters x = desk(5);
        x.write(0, 4, 11, 0);
        for (int row = 0; row < 10; row++)
            for (int column = 0; column < 9; column++)
                light("at(" + row + ", " + column + ", 3)", x.at(row, column, 3), 1.0f);
        x = desk(5);
        x.write(0, 5, 0, 0);
        for (int row = 0; row < 10; row++)
            for (int column = 3; column < 12; column++)
                light("at(" + row + ", " + column + ", 3)", x.at(row, column, 3), 1.0f);
        x = desk(5);
        x.write(0, 9, 5, 0);
        for (int column = 0; column < 12; column++) light("at(0, " + column + ", 3)", x.at(0, column, 3), 1.0f);
    }

    @Boundary(of = 6, says = {"(the place itself is in neither)", "the place itself keeps its light"})
    static void thePlaceItselfKeepsItsLight() {
        PlateWriters x = desk(5);
        x.set(NEAR, 18);
        x.set(FAR, 9);
        x.write(0, 4, 4, 0);
        light("at(4, 4, 3)", x.at(4, 4, 3), 1.0f);
        x.set(READ, 1);
        x.write(0, 4, 5, 0);
        light("at(4, 5, 3)", x.at(4, 5, 3), dim(1.0f, 90));
    }

    @Boundary(of = 6, says = "becomes light * (float) (100 - NEAR * p) / 100.0f")
    static void theFirstRingAtEachPress() {
        for (int press = 1; press <= 5; press++)
            for (int near = 0; near <= 18; near++) {
                PlateWriters x = desk(press);
                x.set(NEAR, near);
                x.set(READ, 1);
                x.write(0, 0, 0, 0);
                light("press " + press + ", NEAR " + near, x.at(0, 1, 3), dim(1.0f, near * press));
                light("its corner", x.at(1, 1, 3), dim(1.0f, near * press));
                x.write(0, 0, 1, 0);
                light("twice", x.at(1, 1, 3), dim(dim(1.0f, near * press), near * press));
            }
    }

    @Boundary(of = 6, says = "that of each place of the second ring light * (float) (100 - FAR * p) / 100.0f")
    static void theSecondRingAtEachPress() {
        for (int press = 1; press <= 5; press++)
            for (int far = 0; far <= 9; far++) {
                PlateWriters x = desk(press);
                x.set(FAR, far);
                x.write(0, 0, 0, 0);
                light("press " + press + ", FAR " + far, x.at(0, 2, 3), dim(1.0f, far * press));
                light("its corner", x.at(2, 2, 3), dim(1.0f, far * press));
                x.write(0, 0, 4, 0);
                light("twice", x.at(0, 2, 3), dim(dim(1.0f, far * press), far * press));
                light("a column beyond", x.at(0, 7, 3), 1.0f);
            }
    }

    @Boundary(of = 6, says = "(from left to right, each step a float)")
    static void aLossOfNothingIsAStepAlso() {
        PlateWriters x = desk(1);
        x.set(NEAR, 7);
        x.write(0, 0, 1, 0);
        x.write(0, 0, 0, 0);
        x.rub(0, 1);
        x.set(NEAR, 0);
        x.set(FAR, 0);
        float light = (dim(1.0f, 7) + 1.0f) / 2.0f;
        sure("the step changes the last bit", dim(light, 0) != light);
        x.write(0, 0, 2, 0);
        light("in the first ring", x.at(0, 1, 3), dim(light, 0));
        x.undo();
        x.write(0, 0, 3, 0);
        light("in the second ring", x.at(0, 1, 3), dim(light, 0));
    }

    @Boundary(of = 6, says =
        "Light is told as a float from 0.0f to 1.0f, and answered by its bits, as Float.floatToIntBits tells them.")
    static void lightComesDownToZero() {
        PlateWriters x = desk(5);
        x.set(NEAR, 18);
        float light = 1.0f;
        for (int i = 0; i < 50; i++) {
            writeAndRub(x, 1, 9, 10);
            light = dim(light, 90);
            light("at(9, 11, 3) after " + i, x.at(9, 11, 3), light);
            light("ofPlate(0, 4) after " + i, x.ofPlate(0, 4), light);
        }
        due("the bits of 0.0f", x.at(9, 11, 3), 0);
    }

    @Boundary(of = 6, says = "A promise of the place is over.")
    static void thePromiseIsOverAndTheOthersAreNot() {
        PlateWriters x = desk(1);
        x.promise(0, 4, 4);
        x.promise(0, 4, 5);
        x.write(0, 4, 4, 0);
        due("at(4, 4, 2)", x.at(4, 4, 2), NONE);
        due("at(4, 5, 2)", x.at(4, 5, 2), 0);
        due("ofPlate(0, 2)", x.ofPlate(0, 2), 1);
        due("takeBack(4, 4)", x.takeBack(4, 4), NOT_POSSIBLE);
        x.rub(4, 4);
        due("rub does not bring it back", x.at(4, 4, 2), NONE);
    }

    @Boundary(of = 6, says = "Returns how many letters of the plate cannot be read then that could be read ahead of it")
    static void aLetterWithJustEnoughLightIsNotSpoiled() {
        PlateWriters x = desk(1, 5);
        x.write(0, 0, 0, 0);
        x.set(READ, 70);
        due("light 0.7, READ 70", x.write(1, 0, 1, 0), 0);
        due("at(0, 0, 6)", x.at(0, 0, 6), 1);
        x.undo();
        x.set(READ, 71);
        due("light 0.7, READ 71", x.write(1, 0, 1, 0), 1);
        due("at(0, 0, 6)", x.at(0, 0, 6), 0);
    }

    @Boundary(of = 6, says = "Returns how many letters of the plate cannot be read then that could be read ahead of it")
    static void aLetterThatCouldNotBeReadIsNotSpoiledAgain() {
        PlateWriters x = desk(1, 5);
        x.write(0, 4, 4, 0);
        x.write(0, 4, 5, 0);
        x.set(READ, 95);
        due("at(4, 4, 6)", x.at(4, 4, 6), 0);
        due("write", x.write(1, 2, 4, 0), 0);
        x.set(READ, 94);
        x.undo();
        x.undo();
        x.set(READ, 94);
        due("with READ 94 both could be read", x.write(1, 2, 4, 0), 2);
    }

    @Boundary(of = 6, says = "Returns how many letters of the plate cannot be read then that could be read ahead of it")
    static void allLettersOfBothRingsAreSpoiled() {
        int[] spoiled = {24, 8};
        for (int it = 0; it < 2; it++) {
            PlateWriters x = clearDesk(5);
            for (int row = 3; row <= 7; row++)
                for (int column = 3; column <= 7; column++)
                    if (row != 5 || column != 5) x.write(0, row, column, 0);
            x.set(NEAR, 18);
            x.set(FAR, 9);
            x.set(READ, 56 - it);
            due("READ " + (56 - it), x.write(0, 5, 5, 0), spoiled[it]);
            due("of(0, 5)", x.of(0, 5), spoiled[it]);
            due("ofPlate(0, 1)", x.ofPlate(0, 1), 25 - spoiled[it]);
        }
    }

    @Boundary(of = 6, says = "Returns how many letters of the plate cannot be read then")
    static void onlyLettersOfThePlateOnTheDesk() {
        PlateWriters x = clearDesk(5);
        x.write(0, 4, 4, 0);
        x.plate();
        x.promise(0, 4, 3);
        x.set(NEAR, 18);
        due("write beside a promise and no letter", x.write(0, 4, 5, 0), 0);
        due("ofPlate(0, 1)", x.ofPlate(0, 1), 1);
    }

    @Boundary(of = 6, says =
        "A plate has 10 rows and 12 columns of places, each with light (1.0f at first), with a letter (0 to 25) of "
            + "a writer, or none")
    static void aPlateFullOfLetters() {
        PlateWriters x = clearDesk(5);
        for (int place = 0; place < 120; place++)
            due("write at " + place, x.write(0, place / 12, place % 12, place % 26), 0);
        due("ofPlate(0, 0)", x.ofPlate(0, 0), 120);
        for (int place = 0; place < 120; place++)
            due("write at " + place, x.write(0, place / 12, place % 12, 0), NOT_POSSIBLE);
    }

    // ---- promise 7: promise

    @Boundary(of = 7, says = "NO_SUCH if there is no such writer, no plate or no such place")
    static void promiseToNoWriter() {
        for (int writer : new int[] {-1, 2, 3, 5, NONE, MIN, MAX})
            refused("promise(" + writer + ")", d -> d.promise(writer, 0, 0), NO_SUCH);
        stays("promise without writers", () -> desk(), d -> d.promise(0, 0, 0), NO_SUCH);
    }

    @Boundary(of = 7, says = "NO_SUCH if there is no such writer, no plate or no such place")
    static void promiseOnNoPlate() {
        stays("promise", WritingBoundariesTest::writersWithoutPlate, d -> d.promise(0, 0, 0), NO_SUCH);
    }

    @Boundary(of = 7, says = "NO_SUCH if there is no such writer, no plate or no such place")
    static void promiseOfNoPlace() {
        for (int[] p : NO_PLACES) refused("promise " + p[0] + ", " + p[1], d -> d.promise(0, p[0], p[1]), NO_SUCH);
    }

    @Boundary(of = 7, says =
        "NO_SUCH if there is no such writer, no plate or no such place; NOT_POSSIBLE if the place has no room")
    static void noSuchIsToldAheadOfNoRoom() {
        refused("no writer, where a letter is", d -> d.promise(2, 5, 5), NO_SUCH);
        refused("no writer, where it is promised", d -> d.promise(-1, 2, 9), NO_SUCH);
    }

    @Boundary(of = 7, says = "NOT_POSSIBLE if the place has no room")
    static void promiseWhereALetterIs() {
        refused("promise to its writer", d -> d.promise(1, 5, 5), NOT_POSSIBLE);
        refused("promise to another one", d -> d.promise(0, 5, 5), NOT_POSSIBLE);
    }

    @Boundary(of = 7, says = "A place has room if it has no letter, is not promised")
    static void promiseWhereItIsPromised() {
        refused("to another one", d -> d.promise(1, 2, 9), NOT_POSSIBLE);
        refused("to itself", d -> d.promise(0, 2, 9), NOT_POSSIBLE);
    }

    @Boundary(of = 7, says = "and its light told ahead is at least READ / 100: at least (float) READ / 100.0f")
    static void justEnoughLightAheadInTheFirstRing() {
        for (int press = 1; press <= 5; press++)
            for (int near = 0; near <= 18; near++) {
                int left = 100 - press * near;
                PlateWriters x = desk(press);
                x.set(NEAR, near);
                x.promise(0, 4, 4);
                if (left < 99) {
                    x.set(READ, left + 1);
                    due("ahead " + left + ", READ one more", x.promise(0, 4, 5), NOT_POSSIBLE);
                    due("at 5", x.at(4, 5, 5), 0);
                }
                x.set(READ, Math.min(left, 99));
                due("at 5", x.at(4, 5, 5), 1);
                due("ahead " + left + ", READ as much", x.promise(0, 4, 5), 2);
            }
    }

    @Boundary(of = 7, says = "and its light told ahead is at least READ / 100: at least (float) READ / 100.0f")
    static void oneBitOfLightDecidesWhetherThereIsRoom() {
        PlateWriters x = oneBitTooDark(false);
        due("a bit too dark", x.at(4, 5, 5), 0);
        due("promise there", x.promise(0, 4, 5), NOT_POSSIBLE);
        x = justBrightEnough(false);
        due("just bright enough", x.at(4, 5, 5), 1);
        due("promise there", x.promise(0, 4, 5), 1);
    }

    @Boundary(of = 7, says = "and its light told ahead is at least READ / 100: at least (float) READ / 100.0f")
    static void onlyTheLightToldAheadIsAskedForRoom() {
        PlateWriters x = oneBitTooDark(false);
        x.set(NEAR, 0);
        x.promise(0, 4, 6);
        light("a step with a loss of 0 gives the bit back", x.at(4, 5, 4), 79.0f / 100.0f);
        due("at(4, 5, 5)", x.at(4, 5, 5), 1);
        due("write there", x.write(0, 4, 5, 0), NOT_POSSIBLE);
        due("promise there", x.promise(0, 4, 5), 2);
    }

    @Boundary(of = 7, says = "and its light told ahead is at least READ / 100: at least (float) READ / 100.0f")
    static void justEnoughLightAheadInTheSecondRing() {
        for (int far = 1; far <= 9; far++) {
            PlateWriters x = desk(5);
            x.set(FAR, far);
            x.promise(0, 4, 4);
            x.set(READ, 100 - 5 * far + 1);
            due("promise with READ one more", x.promise(0, 2, 2), NOT_POSSIBLE);
            due("promise a column further", x.promise(0, 2, 1), 2);
            x.undo();
            x.set(READ, 100 - 5 * far);
            due("promise with READ as much", x.promise(0, 2, 2), 2);
        }
    }

    @Boundary(of = 7, says = "and its light told ahead is at least READ / 100")
    static void theLightOfNowCountsAlso() {
        PlateWriters x = desk(5);
        x.write(0, 4, 4, 0);
        x.set(READ, 71);
        due("promise with READ 71", x.promise(0, 4, 5), NOT_POSSIBLE);
        x.set(READ, 70);
        due("promise with READ 70", x.promise(0, 4, 5), 1);
        x.set(READ, 64);
        due("light 0.7 and a promise, READ 64", x.promise(0, 4, 3), NOT_POSSIBLE);
        x.set(READ, 62);
        due("light 0.7 and a promise, READ 62", x.promise(0, 4, 3), 2);
    }

    @Boundary(of = 7, says =
        "The light told ahead of a place is the light that it would have if all promised places of its plate, but "
            + "itself, were written one after the other")
    static void itsOwnPromiseDoesNotCount() {
        PlateWriters x = desk(5, 1);
        x.promise(0, 4, 4);
        light("at(4, 4, 4)", x.at(4, 4, 4), 1.0f);
        light("at(4, 5, 4)", x.at(4, 5, 4), dim(1.0f, 30));
        light("at(4, 6, 4)", x.at(4, 6, 4), dim(1.0f, 10));
        light("at(4, 7, 4)", x.at(4, 7, 4), 1.0f);
        light("the light itself stays", x.at(4, 5, 3), 1.0f);
        x.promise(1, 4, 5);
        light("at(4, 4, 4)", x.at(4, 4, 4), dim(1.0f, 6));
        light("at(4, 5, 4)", x.at(4, 5, 4), dim(1.0f, 30));
    }

    @Boundary(of = 7, says =
        "The light told ahead of a place is the light that it would have if all promised places of its plate")
    static void thePromisesOfEveryPlace() {
        for (int place = 0; place < 120; place++) {
            PlateWriters x = desk(5);
            x.promise(0, place / 12, place % 12);
            for (int other = 0; other < 120; other++) {
                int ring = ring(place, other);
                light("place " + other + " beside " + place, x.at(other / 12, other % 12, 4),
                        ring == 1 ? dim(1.0f, 30) : ring == 2 ? dim(1.0f, 10) : 1.0f);
            }
        }
    }

    @Boundary(of = 7, says = "if all promised places of its plate")
    static void promisesOfAnotherPlateDoNotCount() {
        PlateWriters x = desk(5);
        x.promise(0, 4, 4);
        x.plate();
        light("at(4, 5, 4)", x.at(4, 5, 4), 1.0f);
        due("promise counts those of its plate", x.promise(0, 4, 5), 1);
        due("ofPlate(0, 2)", x.ofPlate(0, 2), 1);
    }

    @Boundary(of = 7, says = "were written one after the other, row by row, by those to whom they are promised")
    static void promisesAreReckonedRowByRow() {
        int[] press = {5, 4, 3, 2, 1};
        int[][] around = {{2, 6}, {3, 4}, {4, 3}, {5, 5}, {6, 2}};
        float rowByRow = 1.0f, columnByColumn = 1.0f, backwards = 1.0f;
        int[] near = {7, 11, 13}, loss = new int[5];
        PlateWriters x = desk(press);
        x.set(NEAR, near[0]);
        x.set(FAR, 3);
        x.set(READ, 1);
        for (int i = 4; i >= 0; i--) x.promise(i, around[i][0], around[i][1]);
        due("promised", x.ofPlate(0, 2), 5);
        boolean differs = false;
        for (int n : near) {
            x.set(NEAR, n);
            for (int i = 0; i < 5; i++) loss[i] = press[i] * (i == 0 || i == 4 ? 3 : n);
            rowByRow = columnByColumn = backwards = 1.0f;
            for (int i = 0; i < 5; i++) rowByRow = dim(rowByRow, loss[i]);
            for (int i : new int[] {4, 2, 1, 3, 0}) columnByColumn = dim(columnByColumn, loss[i]);
            for (int i = 4; i >= 0; i--) backwards = dim(backwards, loss[i]);
            differs |= rowByRow != columnByColumn && rowByRow != backwards;
            light("at(4, 4, 4) with NEAR " + n, x.at(4, 4, 4), rowByRow);
        }
        sure("another order would tell something else", differs);
    }

    @Boundary(of = 7, says = "Returns how many places of the plate are promised then")
    static void allPlacesArePromised() {
        PlateWriters x = clearDesk(5);
        for (int place = 0; place < 120; place++)
            due("promise " + place, x.promise(0, place / 12, place % 12), place + 1);
        for (int place = 0; place < 120; place++)
            due("promise " + place, x.promise(0, place / 12, place % 12), NOT_POSSIBLE);
        due("of(0, 3)", x.of(0, 3), 120);
    }

    @Boundary(of = 7, says = "A place of the plate on the desk is promised to a writer. This is a change.")
    static void promiseIsAChange() {
        changes("promise", Checks::someDesk, d -> d.promise(1, 9, 11), 3);
    }

    // ---- promise 8: takeBack

    @Boundary(of = 8, says = "NO_SUCH if there is no plate on the desk or no such place")
    static void takeBackOfNone() {
        for (int[] p : NO_PLACES) refused("takeBack " + p[0] + ", " + p[1], d -> d.takeBack(p[0], p[1]), NO_SUCH);
        stays("without a plate", WritingBoundariesTest::writersWithoutPlate, d -> d.takeBack(0, 0), NO_SUCH);
    }

    @Boundary(of = 8, says = "NOT_POSSIBLE if it is not promised")
    static void takeBackWhereNothingIsPromised() {
        refused("an empty place", d -> d.takeBack(0, 0), NOT_POSSIBLE);
        refused("a letter", d -> d.takeBack(5, 5), NOT_POSSIBLE);
        refused("promised on another plate", d -> d.takeBack(6, 6), NOT_POSSIBLE);
    }

    @Boundary(of = 8, says = "NOT_POSSIBLE if it is not promised")
    static void takeBackTwice() {
        PlateWriters x = busyDesk();
        due("takeBack", x.takeBack(2, 9), 0);
        due("takeBack again", x.takeBack(2, 9), NOT_POSSIBLE);
    }

    @Boundary(of = 8, says = "Returns the writer to whom it was promised")
    static void takeBackOfTheFirstAndTheLastWriter() {
        PlateWriters x = desk(1, 1, 1, 1, 1);
        for (int i = 0; i < 4; i++) x.promise(i + 1, CORNERS[i][0], CORNERS[i][1]);
        x.promise(0, 5, 5);
        for (int i = 0; i < 4; i++) due("takeBack", x.takeBack(CORNERS[i][0], CORNERS[i][1]), i + 1);
        due("takeBack", x.takeBack(5, 5), 0);
        due("ofPlate(0, 2)", x.ofPlate(0, 2), 0);
        light("nothing is told ahead any more", x.at(5, 6, 4), 1.0f);
        due("promise(3, 5, 5)", x.promise(3, 5, 5), 1);
    }

    @Boundary(of = 8, says = "A promise is taken back. This is a change.")
    static void takeBackIsAChange() {
        changes("takeBack", Checks::someDesk, d -> d.takeBack(7, 2), 1);
    }

    // ---- promise 9: rub

    @Boundary(of = 9, says = "NO_SUCH if there is no plate on the desk or no such place")
    static void rubOfNone() {
        for (int[] p : NO_PLACES) refused("rub " + p[0] + ", " + p[1], d -> d.rub(p[0], p[1]), NO_SUCH);
        stays("without a plate", WritingBoundariesTest::writersWithoutPlate, d -> d.rub(0, 0), NO_SUCH);
    }

    @Boundary(of = 9, says = "NOT_POSSIBLE if there is none")
    static void rubWhereNoLetterIs() {
        refused("an empty place", d -> d.rub(0, 0), NOT_POSSIBLE);
        refused("a promised place", d -> d.rub(2, 9), NOT_POSSIBLE);
        refused("a letter of another plate", d -> d.rub(4, 4), NOT_POSSIBLE);
    }

    @Boundary(of = 9, says = "NOT_POSSIBLE if there is none")
    static void rubTwice() {
        PlateWriters x = busyDesk();
        due("rub", x.rub(5, 5), 7);
        due("rub again", x.rub(5, 5), NOT_POSSIBLE);
    }

    @Boundary(of = 9, says = "Returns the letter")
    static void rubOfTheFirstAndTheLastLetter() {
        PlateWriters x = desk(1);
        for (int i = 0; i < 4; i++) x.write(0, CORNERS[i][0], CORNERS[i][1], i % 2 == 0 ? 0 : 25);
        for (int i = 0; i < 4; i++) due("rub", x.rub(CORNERS[i][0], CORNERS[i][1]), i % 2 == 0 ? 0 : 25);
        due("ofPlate(0, 0)", x.ofPlate(0, 0), 0);
    }

    @Boundary(of = 9, says =
        "To rub a letter out: it is gone; the light of its place becomes (light + 1.0f) / 2.0f; what it clouded "
            + "stays.")
    static void theLightBehindARub() {
        PlateWriters x = desk(5);
        x.write(0, 4, 4, 0);
        x.rub(4, 4);
        light("full light stays", x.at(4, 4, 3), 1.0f);
        light("what it clouded stays", x.at(4, 5, 3), dim(1.0f, 30));
        light("in the second ring also", x.at(4, 6, 3), dim(1.0f, 10));
        due("at(4, 4, 0)", x.at(4, 4, 0), NONE);
        due("at(4, 4, 1)", x.at(4, 4, 1), NONE);
        x.set(READ, 1);
        x.set(NEAR, 18);
        x.write(0, 4, 4, 0);
        x.write(0, 4, 3, 0);
        x.rub(4, 4);
        light("little light", x.at(4, 4, 3), (dim(1.0f, 90) + 1.0f) / 2.0f);
    }

    @Boundary(of = 9, says = "the light of its place becomes (light + 1.0f) / 2.0f")
    static void aRubIsReckonedAsItIsTold() {
        for (int loss : new int[] {60, 65, 85}) {
            PlateWriters x = desk(5);
            x.set(NEAR, loss / 5);
            x.write(0, 4, 4, 0);
            x.set(READ, 1);
            x.write(0, 4, 5, 0);
            float there = lightOf(x, 52), rubbed = (there + 1.0f) / 2.0f;
            sure("half of what is missing would be something else", there + (1.0f - there) / 2.0f != rubbed);
            x.rub(4, 4);
            light("a loss of " + loss, x.at(4, 4, 3), rubbed);
        }
    }

    @Boundary(of = 9, says = "the light of its place becomes (light + 1.0f) / 2.0f")
    static void aLetterWithoutLightIsRubbed() {
        PlateWriters x = desk(5);
        x.write(0, 0, 0, 4);
        x.set(NEAR, 18);
        writeAndRub(x, 50, 1, 1);
        due("no light is left", x.at(0, 0, 3), 0);
        due("at(0, 0, 6)", x.at(0, 0, 6), 0);
        due("rub(0, 0)", x.rub(0, 0), 4);
        light("half of it", x.at(0, 0, 3), 0.5f);
    }

    @Boundary(of = 9, says = "A letter is rubbed out. This is a change.")
    static void rubIsAChange() {
        changes("rub", Checks::someDesk, d -> d.rub(5, 5), 7);
    }

    public static void main(String[] args) {
        runAll(WritingBoundariesTest.class);
    }
}
