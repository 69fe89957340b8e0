/** The boundaries of promises 17 to 21: what if; nothing changes. */
public final class WhatIfBoundariesTest extends Checks {

    private static PlateWriters writersWithoutPlate() {
        PlateWriters x = new PlateWriters();
        x.writer(1);
        x.writer(5);
        return x;
    }

    /** No letter takes light away, and each place but these two has one; then the second takes light from the first. */
    private static PlateWriters onePlaceLeft(int left, int beside, int press) {
        PlateWriters x = clearDesk(press);
        for (int place = 0; place < 120; place++)
            if (place != left && place != beside) x.write(0, place / 12, place % 12, 0);
        x.set(NEAR, 6);
        x.write(0, beside / 12, beside % 12, 0);
        return x;
    }

    /** Letters, or promises, of 24 places around the one in the middle, which take no light away. */
    private static PlateWriters surrounded(boolean written) {
        PlateWriters x = clearDesk(5);
        for (int row = 3; row <= 7; row++)
            for (int column = 3; column <= 7; column++)
                if (row != 5 || column != 5) {
                    if (written) x.write(0, row, column, 0);
                    else x.promise(0, row, column);
                }
        x.set(NEAR, 18);
        x.set(FAR, 9);
        return x;
    }

    // ---- promise 17: ifWritten

    @Boundary(of = 17, says = "Returns the number; NO_SUCH if there is no such writer, no plate or no such place")
    static void ifWrittenByNoWriter() {
        for (int writer : new int[] {-1, 2, 5, NONE, MIN, MAX})
            for (int what = 0; what < 3; what++) {
                int asked = what;
                refused("ifWritten(" + writer + ")", d -> d.ifWritten(writer, 0, 0, asked), NO_SUCH);
            }
        stays("ifWritten without writers", () -> desk(), d -> d.ifWritten(0, 0, 0, 0), NO_SUCH);
    }

    @Boundary(of = 17, says = "NO_SUCH if there is no such writer, no plate or no such place")
    static void ifWrittenOnNoPlate() {
        for (int what = 0; what < 3; what++) {
            int asked = what;
            stays("ifWritten", WhatIfBoundariesTest::writersWithoutPlate, d -> d.ifWritten(0, 0, 0, asked), NO_SUCH);
        }
    }

    @Boundary(of = 17, says = "NO_SUCH if there is no such writer, no plate or no such place")
    static void ifWrittenAtNoPlace() {
        for (int[] p : NO_PLACES)
            for (int what = 0; what < 3; what++) {
                int asked = what;
                refused("at " + p[0] + ", " + p[1], d -> d.ifWritten(0, p[0], p[1], asked), NO_SUCH);
            }
    }

    @Boundary(of = 17, says = "BAD_VALUE if what is out of range")
    static void ifWrittenWithABadWhat() {
        for (int what : new int[] {-1, 3, MIN, MAX}) {
            refused("ifWritten, what " + what, d -> d.ifWritten(0, 0, 0, what), BAD_VALUE);
            refused("ifWritten at a letter, what " + what, d -> d.ifWritten(0, 5, 5, what), BAD_VALUE);
        }
    }

    @Boundary(of = 17, says =
        "NO_SUCH if there is no such writer, no plate or no such place; BAD_VALUE if what is out of range")
    static void noSuchIsToldAheadOfABadWhat() {
        for (int what : new int[] {-1, 3, MIN, MAX}) {
            due("no writer", busyDesk().ifWritten(2, 0, 0, what), NO_SUCH);
            due("no place", busyDesk().ifWritten(0, 0, 12, what), NO_SUCH);
            due("no plate", writersWithoutPlate().ifWritten(0, 0, 0, what), NO_SUCH);
        }
    }

    @Boundary(of = 17, says = "what if; nothing changes")
    static void ifWrittenChangesNothing() {
        int[] want = {0, 0, 116};
        for (int what = 0; what < 3; what++) {
            int asked = what;
            refused("at an empty place", d -> d.ifWritten(0, 9, 11, asked), want[what]);
        }
        refused("at a letter", d -> d.ifWritten(0, 5, 5, 0), 0);
        refused("at a place that is promised to another one", d -> d.ifWritten(1, 2, 9, 1), 0);
    }

    @Boundary(of = 17, says = "(also if the place has one, or has no light)")
    static void ifWrittenWhereALetterIs() {
        PlateWriters x = desk(5, 1);
        x.write(1, 4, 4, 0);
        x.write(1, 4, 5, 0);
        x.promise(1, 3, 3);
        x.set(READ, 75);
        due("what 0", x.ifWritten(0, 4, 4, 0), 1);
        due("what 1", x.ifWritten(0, 4, 4, 1), 1);
        due("what 2", x.ifWritten(0, 4, 4, 2), 117 - 6);
    }

    @Boundary(of = 17, says = "(also if the place has one, or has no light)")
    static void ifWrittenWhereNoLightIs() {
        PlateWriters x = desk(5);
        x.set(NEAR, 18);
        x.write(0, 4, 4, 0);
        due("write", x.write(0, 4, 5, 0), NOT_POSSIBLE);
        due("what 0", x.ifWritten(0, 4, 5, 0), 1);
        x.promise(0, 4, 7);
        due("what 1", x.ifWritten(0, 4, 6, 1), 1);
        due("what 2: dark are three rows of six", x.ifWritten(0, 4, 5, 2), 120 - 18);
    }

    @Boundary(of = 17, says =
        "0 letters (that of the place itself does not count) that cannot be read then that can be read now")
    static void lettersWithJustEnoughLightThen() {
        PlateWriters x = desk(1, 5);
        x.write(0, 0, 0, 0);
        x.set(READ, 70);
        due("light 0.7, READ 70", x.ifWritten(1, 0, 1, 0), 0);
        due("light 0.9, READ 70", x.ifWritten(1, 0, 2, 0), 0);
        x.set(READ, 71);
        due("light 0.7, READ 71", x.ifWritten(1, 0, 1, 0), 1);
        due("light 0.9, READ 71", x.ifWritten(1, 0, 2, 0), 0);
        x.set(READ, 91);
        due("light 0.9, READ 91", x.ifWritten(1, 0, 2, 0), 1);
        due("light 1.0, READ 91", x.ifWritten(1, 0, 3, 0), 0);
    }

    @Boundary(of = 17, says = "that cannot be read then that can be read now")
    static void lettersThatCannotBeReadNow() {
        PlateWriters x = desk(1, 5);
        x.write(0, 4, 4, 0);
        x.write(0, 4, 5, 0);
        x.set(READ, 94);
        due("both can be read now", x.ifWritten(1, 2, 4, 0), 2);
        x.set(READ, 95);
        due("none can be read now", x.ifWritten(1, 2, 4, 0), 0);
    }

    @Boundary(of = 17, says = "(that of the place itself does not count)")
    static void theLetterOfThePlaceItself() {
        PlateWriters x = desk(5);
        x.set(NEAR, 18);
        x.write(0, 4, 4, 0);
        due("alone", x.ifWritten(0, 4, 4, 0), 0);
        x.write(0, 0, 0, 0);
        due("beside another one", x.ifWritten(0, 1, 1, 0), 1);
    }

    @Boundary(of = 17, says = "`what`: 0 letters")
    static void noLetterAndAllLettersAround() {
        due("none", desk(5).ifWritten(0, 5, 5, 0), 0);
        PlateWriters x = surrounded(true);
        x.set(READ, 56);
        due("both rings", x.ifWritten(0, 5, 5, 0), 24);
        x.set(READ, 55);
        due("the first ring", x.ifWritten(0, 5, 5, 0), 8);
        x.set(READ, 10);
        due("no ring", x.ifWritten(0, 5, 5, 0), 0);
        due("promises are no letters", surrounded(false).ifWritten(0, 5, 5, 0), 0);
    }

    @Boundary(of = 17, says =
        "1 promised places, but itself, whose light (not that told ahead) would be too little then, and is not now")
    static void noPromiseAndAllPromisesAround() {
        due("none", desk(5).ifWritten(0, 5, 5, 1), 0);
        PlateWriters x = surrounded(false);
        x.set(READ, 56);
        due("both rings", x.ifWritten(0, 5, 5, 1), 24);
        x.set(READ, 55);
        due("the first ring", x.ifWritten(0, 5, 5, 1), 8);
        x.set(READ, 10);
        due("no ring", x.ifWritten(0, 5, 5, 1), 0);
        due("letters are no promises", surrounded(true).ifWritten(0, 5, 5, 1), 0);
    }

    @Boundary(of = 17, says = "whose light (not that told ahead) would be too little then")
    static void promisesWithJustEnoughLightThen() {
        PlateWriters x = desk(1, 5);
        x.promise(0, 9, 11);
        x.set(READ, 70);
        due("light 0.7, READ 70", x.ifWritten(1, 9, 10, 1), 0);
        x.set(READ, 71);
        due("light 0.7, READ 71", x.ifWritten(1, 9, 10, 1), 1);
        due("light 0.9, READ 71", x.ifWritten(1, 9, 9, 1), 0);
        x.set(READ, 91);
        due("light 0.9, READ 91", x.ifWritten(1, 9, 9, 1), 1);
        due("light 1.0, READ 91", x.ifWritten(1, 9, 8, 1), 0);
    }

    @Boundary(of = 17, says = "1 promised places, but itself, whose light")
    static void promisesAtEachCorner() {
        int[][] beside = {{1, 1}, {1, 10}, {8, 1}, {8, 10}};
        for (int i = 0; i < 4; i++) {
            PlateWriters x = desk(5);
            x.promise(0, CORNERS[i][0], CORNERS[i][1]);
            x.set(READ, 71);
            for (int other = 0; other < 4; other++)
                due("what 1", x.ifWritten(0, beside[other][0], beside[other][1], 1), other == i ? 1 : 0);
        }
    }

    @Boundary(of = 17, says = "would be too little then, and is not now")
    static void promisesWithTooLittleLightNow() {
        PlateWriters x = desk(5);
        x.promise(0, 4, 4);
        x.write(0, 4, 5, 0);
        x.set(READ, 70);
        due("enough now, READ 70", x.ifWritten(0, 4, 3, 1), 1);
        x.set(READ, 71);
        due("too little now, READ 71", x.ifWritten(0, 4, 3, 1), 0);
    }

    @Boundary(of = 17, says = "1 promised places, but itself")
    static void thePromiseOfThePlaceItself() {
        PlateWriters x = desk(5, 5);
        x.set(NEAR, 18);
        x.promise(0, 4, 4);
        due("by the one to whom it is promised", x.ifWritten(0, 4, 4, 1), 0);
        due("by another one", x.ifWritten(1, 4, 4, 1), 0);
        due("beside it", x.ifWritten(1, 4, 5, 1), 1);
    }

    @Boundary(of = 17, says = "whose light (not that told ahead)")
    static void theLightToldAheadDoesNotMatter() {
        PlateWriters x = desk(5, 1);
        x.promise(1, 4, 4);
        x.promise(1, 4, 5);
        x.set(READ, 95);
        light("ahead of (4, 4), too little", x.at(4, 4, 4), dim(1.0f, 6));
        due("light 0.98 and 0.94 then", x.ifWritten(1, 4, 6, 1), 1);
        due("light 1.0 and 0.98 then", x.ifWritten(1, 4, 7, 1), 0);
        x.takeBack(4, 5);
        x.promise(1, 4, 6);
        x.set(READ, 97);
        due("light 1.0 and 0.98 then, ahead less than 0.97", x.ifWritten(1, 4, 8, 1), 0);
    }

    @Boundary(of = 17, says = "2 places with room that would be left")
    static void roomThatIsLeftAtEachCorner() {
        PlateWriters x = desk(5);
        due("all but itself", x.ifWritten(0, 5, 5, 2), 119);
        for (int[] p : CORNERS) {
            x.set(READ, 70);
            due("READ 70", x.ifWritten(0, p[0], p[1], 2), 119);
            x.set(READ, 71);
            due("READ 71", x.ifWritten(0, p[0], p[1], 2), 119 - 3);
            x.set(READ, 90);
            due("READ 90", x.ifWritten(0, p[0], p[1], 2), 119 - 3);
            x.set(READ, 91);
            due("READ 91", x.ifWritten(0, p[0], p[1], 2), 119 - 8);
        }
        due("in the middle", x.ifWritten(0, 5, 5, 2), 119 - 24);
    }

    @Boundary(of = 17, says = "2 places with room that would be left")
    static void noRoomIsLeft() {
        PlateWriters x = clearDesk(5);
        for (int place = 0; place < 119; place++) x.write(0, place / 12, place % 12, 0);
        due("the last place", x.ifWritten(0, 9, 11, 2), 0);
        due("another place", x.ifWritten(0, 0, 0, 2), 1);
        x.write(0, 9, 11, 0);
        due("a full plate", x.ifWritten(0, 9, 11, 2), 0);
    }

    @Boundary(of = 17, says = "A promise of the place is over.")
    static void roomThatIsLeftWhenThePromiseIsOver() {
        PlateWriters x = desk(5, 1);
        x.set(READ, 80);
        x.promise(0, 5, 5);
        due("by the one to whom it is promised", x.ifWritten(0, 5, 5, 2), 119 - 8);
        due("by another one, who presses less", x.ifWritten(1, 5, 5, 2), 119);
    }

    @Boundary(of = 17, says = "its light told ahead is at least READ / 100")
    static void roomThatIsLeftBesidePromises() {
        PlateWriters x = desk(5);
        x.set(READ, 60);
        x.promise(0, 5, 5);
        due("far away", x.ifWritten(0, 0, 0, 2), 118);
        due("beside it, both first rings", x.ifWritten(0, 5, 6, 2), 118 - 4);
    }

    // ---- promise 18: bestPlace

    @Boundary(of = 18, says = "NO_SUCH if there is no plate")
    static void theBestPlaceOfNoPlate() {
        stays("bestPlace()", PlateWriters::new, d -> d.bestPlace(), NO_SUCH);
        stays("bestPlace()", WhatIfBoundariesTest::writersWithoutPlate, d -> d.bestPlace(), NO_SUCH);
    }

    @Boundary(of = 18, says = "NONE if no place has room")
    static void theBestPlaceWhereNoneHasRoom() {
        PlateWriters written = clearDesk(1), promised = clearDesk(1);
        writeAll(written, 0);
        promiseAll(promised, 0);
        due("full of letters", written.bestPlace(), NONE);
        due("full of promises", promised.bestPlace(), NONE);
        due("too dark", darkDesk().bestPlace(), NONE);
        stays("bestPlace()", WhatIfBoundariesTest::darkDesk, d -> d.bestPlace(), NONE);
    }

    /** Free places, but none with light enough. */
    private static PlateWriters darkDesk() {
        PlateWriters x = desk(5);
        x.set(READ, 99);
        for (int row = 1; row < 10; row += 3)
            for (int column = 1; column < 12; column += 3) x.write(0, row, column, 0);
        for (int column = 0; column < 12; column++) x.write(0, 9, column, 0);
        sure("some places are free", x.ofPlate(0, 0) < 120);
        return x;
    }

    @Boundary(of = 18, says =
        "A place has room if it has no letter, is not promised, and its light told ahead is at least READ / 100")
    static void theOnlyPlaceWithJustEnoughLight() {
        int[][] places = {{0, 1}, {119, 118}, {11, 23}, {108, 96}};
        for (int[] it : places) {
            PlateWriters x = onePlaceLeft(it[0], it[1], 5);
            x.set(READ, 70);
            due("with READ 70", x.bestPlace(), it[0]);
            x.set(READ, 71);
            due("with READ 71", x.bestPlace(), NONE);
        }
    }

    @Boundary(of = 18, says = "Returns 12 * its row and its column")
    static void theOnlyPlaceWithRoom() {
        for (int left = 0; left < 120; left++) {
            PlateWriters x = clearDesk(5);
            for (int place = 0; place < 120; place++) if (place != left) x.write(0, place / 12, place % 12, 0);
            due("bestPlace()", x.bestPlace(), left);
        }
    }

    @Boundary(of = 18, says = "of several the first one row by row")
    static void theFirstOfSeveralBestPlaces() {
        PlateWriters x = desk(5);
        due("an empty plate", x.bestPlace(), 0);
        x.promise(0, 0, 0);
        due("the first row ahead of the first column", x.bestPlace(), 3);
        for (int column = 5; column <= 10; column += 5) x.promise(0, 0, column);
        x.write(0, 2, 5, 0);
        due("the row below, where no ring is", x.bestPlace(), 3 * 12);
    }

    @Boundary(of = 18, says = "Finds the place with room with the most light told ahead")
    static void theLightToldAheadDecidesAndNotTheLight() {
        PlateWriters x = clearDesk(5);
        for (int place = 2; place < 120; place++)
            if (place != 118 && place != 119) x.write(0, place / 12, place % 12, 0);
        x.promise(0, 0, 1);
        x.set(NEAR, 6);
        due("0 is clouded by a promise, 118 is not", x.bestPlace(), 118);
        x.takeBack(0, 1);
        due("nothing is promised", x.bestPlace(), 0);
        x.write(0, 9, 11, 0);
        x.promise(0, 0, 1);
        light("at(0, 0, 4)", x.at(0, 0, 4), dim(1.0f, 30));
        light("at(9, 10, 4)", x.at(9, 10, 4), dim(1.0f, 30));
        due("both have as much ahead", x.bestPlace(), 0);
        x.set(NEAR, 7);
        due("the promise takes more now", x.bestPlace(), 118);
    }

    @Boundary(of = 18, says = "Finds the place with room")
    static void aBrighterPlaceWithoutRoom() {
        PlateWriters x = onePlaceLeft(0, 1, 5);
        light("the letters have more light", x.at(0, 1, 3), 1.0f);
        due("beside letters", x.bestPlace(), 0);
        x.rub(9, 11);
        due("one of them is rubbed out", x.bestPlace(), 119);
        x.promise(0, 9, 11);
        due("and promised", x.bestPlace(), 0);
    }

    // ---- promise 19: fills

    @Boundary(of = 19, says = "Returns how many; NO_SUCH if there is no such writer or no plate")
    static void fillsByNoWriter() {
        for (int writer : new int[] {-1, 2, 5, NONE, MIN, MAX})
            refused("fills(" + writer + ")", d -> d.fills(writer), NO_SUCH);
        stays("fills(0)", () -> desk(), d -> d.fills(0), NO_SUCH);
    }

    @Boundary(of = 19, says = "NO_SUCH if there is no such writer or no plate")
    static void fillsOfNoPlate() {
        stays("fills(0)", WhatIfBoundariesTest::writersWithoutPlate, d -> d.fills(0), NO_SUCH);
        stays("fills(0)", PlateWriters::new, d -> d.fills(0), NO_SUCH);
    }

    @Boundary(of = 19, says = "Tells how many letters a writer could still write on the plate on the desk")
    static void fillsOfAnEmptyAndAFullPlate() {
        PlateWriters x = clearDesk(5);
        due("an empty plate", x.fills(0), 120);
        writeAll(x, 0);
        due("a full plate", x.fills(0), 0);
        x.rub(9, 11);
        due("one place", x.fills(0), 1);
        x.rub(0, 0);
        due("two places", x.fills(0), 2);
    }

    @Boundary(of = 19, says = "until no place has room")
    static void fillsWithJustEnoughLight() {
        PlateWriters x = onePlaceLeft(0, 1, 5);
        x.set(READ, 70);
        due("with READ 70", x.fills(0), 1);
        x.set(READ, 71);
        due("with READ 71", x.fills(0), 0);
        due("a dark plate", darkDesk().fills(0), 0);
    }

    @Boundary(of = 19, says = "(all places that are promised now stay so)")
    static void fillsBesidePromises() {
        PlateWriters x = clearDesk(5);
        promiseAll(x, 0);
        due("all are promised", x.fills(0), 0);
        x.takeBack(9, 11);
        due("all but one", x.fills(0), 1);
        x = clearDesk(5);
        x.promise(0, 0, 0);
        due("all but one are free", x.fills(0), 119);
        x = desk(5);
        x.set(NEAR, 18);
        x.set(FAR, 0);
        x.set(READ, 11);
        x.promise(0, 1, 1);
        for (int row = 0; row < 10; row++)
            for (int column = 3; column < 12; column += 2) x.write(0, row, column, 0);
        x.set(NEAR, 0);
        int beside = x.fills(0);
        x.set(NEAR, 18);
        sure("the ring of the promise stays dark", x.fills(0) < beside);
    }

    /** Carried out on a desk of its own: each letter promised and written at the best place. */
    private static int filled(PlateWriters x, int writer) {
        int letters = 0;
        for (int best = x.bestPlace(); best != NONE; best = x.bestPlace()) {
            x.promise(writer, best / 12, best % 12);
            x.write(writer, best / 12, best % 12, 0);
            letters++;
        }
        return letters;
    }

    @Boundary(of = 19, says = "each at the best place then, as if that was promised to it and written")
    static void fillsAtEachPress() {
        for (int press = 1; press <= 5; press++)
            for (int read = 1; read < 100; read += 14) {
                PlateWriters[] twins = {desk(press), desk(press)};
                for (PlateWriters x : twins) {
                    x.set(READ, read);
                    x.promise(0, 4, 4);
                    x.write(0, 8, 8, 0);
                }
                due("press " + press + ", READ " + read, twins[0].fills(0), filled(twins[1], 0));
            }
    }

    @Boundary(of = 19, says = "each at the best place then, as if that was promised to it and written")
    static void anotherOrderOfPlacesWouldFillMoreOrLess() {
        PlateWriters[] twins = {desk(3), desk(3), desk(3)};
        for (PlateWriters x : twins) {
            x.set(NEAR, 3);
            x.set(FAR, 5);
            x.write(0, 0, 0, 0);
            x.set(READ, 80);
        }
        due("by hand", filled(twins[0], 0), 19);
        due("fills(0)", twins[1].fills(0), 19);
        int others = 0;
        for (int place = 0; place < 120; place++) if (twins[2].write(0, place / 12, place % 12, 0) >= 0) others++;
        sure("row by row there would be more", others > 19);
    }

    @Boundary(of = 19, says = "until no place has room")
    static void fillsAlsoWhereOnlyTheLightToldAheadIsEnough() {
        PlateWriters x = oneBitTooDark(false);
        x.set(NEAR, 0);
        x.set(FAR, 0);
        x.set(READ, 1);
        for (int row = 2; row <= 6; row++)
            for (int column = 3; column <= 7; column++)
                if (row != 4 || column < 4 || column > 5) x.promise(0, row, column);
        x.set(READ, 79);
        due("promised places", x.ofPlate(0, 2), 23);
        due("it has room", x.at(4, 5, 5), 1);
        due("write there", x.write(0, 4, 5, 0), NOT_POSSIBLE);
        due("fills(0)", x.fills(0), 120 - 23 - 1);
    }

    @Boundary(of = 19, says = "what if; nothing changes (the bound of hours does not matter)")
    static void fillsChangesNothing() {
        int filled = filled(busyDesk(), 1);
        refused("fills(1)", d -> d.fills(1), filled);
    }

    // ---- promise 20: whoDims

    @Boundary(of = 20, says = "Returns the writer; NO_SUCH if there is no plate or no such place")
    static void whoDimsNoPlace() {
        for (int[] p : NO_PLACES) refused("whoDims " + p[0] + ", " + p[1], d -> d.whoDims(p[0], p[1]), NO_SUCH);
        stays("whoDims", WhatIfBoundariesTest::writersWithoutPlate, d -> d.whoDims(0, 0), NO_SUCH);
        stays("whoDims", PlateWriters::new, d -> d.whoDims(0, 0), NO_SUCH);
    }

    @Boundary(of = 20, says = "NONE if nobody's letters leave less than 1.0f")
    static void nobodyDims() {
        due("without writers", desk().whoDims(0, 0), NONE);
        due("without letters", desk(5, 5).whoDims(0, 0), NONE);
        PlateWriters x = clearDesk(5);
        writeAll(x, 0);
        due("without losses", x.whoDims(5, 5), NONE);
        x = desk(5);
        x.promise(0, 5, 6);
        due("promises do not count", x.whoDims(5, 5), NONE);
    }

    @Boundary(of = 20, says = "NONE if nobody's letters leave less than 1.0f")
    static void theWeakestLetterDims() {
        PlateWriters x = desk(1);
        x.set(NEAR, 0);
        x.set(FAR, 1);
        x.write(0, 5, 5, 0);
        due("in its first ring, without loss", x.whoDims(5, 6), NONE);
        due("in its second ring, a hundredth", x.whoDims(5, 7), 0);
        due("beyond its rings", x.whoDims(5, 8), NONE);
    }

    @Boundary(of = 20, says = "Finds the writer whose letters dim a place the most")
    static void theRingsOfEveryLetter() {
        for (int place = 0; place < 120; place += 7) {
            PlateWriters x = desk(5);
            x.write(0, place / 12, place % 12, 0);
            for (int other = 0; other < 120; other++) {
                int rows = Math.abs(place / 12 - other / 12), columns = Math.abs(place % 12 - other % 12);
                boolean dimmed = rows <= 2 && columns <= 2 && other != place;
                due("place " + other + " beside " + place, x.whoDims(other / 12, other % 12), dimmed ? 0 : NONE);
            }
        }
    }

    @Boundary(of = 20, says = "the one who leaves the least, of several the lowest one")
    static void ofSeveralTheLowestOne() {
        PlateWriters x = desk(1, 5, 5, 5, 5);
        x.write(4, 5, 4, 0);
        due("the last writer", x.whoDims(5, 5), 4);
        x.write(2, 5, 6, 0);
        due("two leave as much", x.whoDims(5, 5), 2);
        x.write(3, 4, 5, 0);
        due("three leave as much", x.whoDims(5, 5), 2);
        x.write(0, 6, 5, 0);
        due("a lower one leaves more", x.whoDims(5, 5), 2);
        x.write(1, 6, 6, 0);
        due("a lower one leaves as much", x.whoDims(5, 5), 1);
        x.write(4, 3, 3, 0);
        due("two letters leave less", x.whoDims(5, 5), 4);
    }

    @Boundary(of = 20, says = "letter by letter row by row, as told under Writing")
    static void lettersAreReckonedRowByRow() {
        float nearThenFar = dim(dim(1.0f, 3), 8), farThenNear = dim(dim(1.0f, 8), 3);
        sure("the order decides", farThenNear < nearThenFar);
        PlateWriters x = desk(1, 1);
        x.set(NEAR, 3);
        x.set(FAR, 8);
        x.write(0, 7, 4, 0);
        x.write(0, 4, 6, 0);
        x.write(1, 6, 4, 0);
        x.write(1, 3, 6, 0);
        due("whoDims(5, 5)", x.whoDims(5, 5), 1);
        x = desk(1, 1);
        x.set(NEAR, 3);
        x.set(FAR, 8);
        x.write(1, 7, 4, 0);
        x.write(1, 4, 6, 0);
        x.write(0, 6, 4, 0);
        x.write(0, 3, 6, 0);
        due("whoDims(5, 5), the other way", x.whoDims(5, 5), 0);
    }

    @Boundary(of = 20, says = "what its letters on the plate leave of light there")
    static void onlyLettersThatAreOnThePlate() {
        PlateWriters x = desk(5, 1);
        x.write(0, 5, 5, 0);
        x.plate();
        due("a letter of another plate", x.whoDims(5, 6), NONE);
        x.lay(0);
        x.write(1, 5, 7, 0);
        due("whoDims(5, 6)", x.whoDims(5, 6), 0);
        x.rub(5, 5);
        due("a letter that is rubbed out", x.whoDims(5, 6), 1);
        x.rub(5, 7);
        due("no letter is left", x.whoDims(5, 6), NONE);
    }

    @Boundary(of = 20, says = "for each, from 1.0f on")
    static void thePlaceItselfAndItsLightDoNotMatter() {
        PlateWriters x = desk(1, 5);
        x.write(1, 5, 5, 0);
        due("the letter of the place itself", x.whoDims(5, 5), NONE);
        x.write(0, 5, 6, 0);
        x.plate();
        for (int i = 0; i < 20; i++) x.pass(48);
        x.lay(0);
        sure("the place is clear again", lightOf(x, 66) > 0.99f);
        due("whoDims(5, 6)", x.whoDims(5, 6), 1);
        due("whoDims(5, 5)", x.whoDims(5, 5), 0);
    }

    @Boundary(of = 20, says = "what if; nothing changes")
    static void whoDimsChangesNothing() {
        refused("whoDims(5, 6)", d -> d.whoDims(5, 6), 1);
        refused("whoDims(0, 0)", d -> d.whoDims(0, 0), NONE);
    }

    // ---- promise 21: readableIn

    @Boundary(of = 21, says = "NO_SUCH if there is no such plate")
    static void readableInOfNoPlate() {
        for (int plate : new int[] {-1, 2, 4, NONE, MIN, MAX})
            refused("readableIn(" + plate + ")", d -> d.readableIn(plate), NO_SUCH);
        stays("readableIn(0)", PlateWriters::new, d -> d.readableIn(0), NO_SUCH);
        stays("readableIn(NONE)", PlateWriters::new, d -> d.readableIn(NONE), NO_SUCH);
    }

    @Boundary(of = 21, says = "Returns how many (0 if all can be read)")
    static void readableAtOnce() {
        PlateWriters x = new PlateWriters();
        x.writer(5);
        for (int plate = 0; plate < 4; plate++) x.plate();
        for (int plate = 0; plate < 4; plate++) due("without letters", x.readableIn(plate), 0);
        x.write(0, 0, 0, 0);
        x.set(READ, 99);
        due("one letter of full light", x.readableIn(3), 0);
    }

    /** A letter at the first or the last place, with light 0.5f. */
    private static PlateWriters halfLight(int place) {
        PlateWriters x = desk(1, 5);
        int row = place / 12, column = place % 12;
        x.write(0, row, column, 0);
        x.set(NEAR, 10);
        x.set(CLEAR, 50);
        x.write(1, row == 0 ? 1 : row - 1, column == 0 ? 1 : column - 1, 0);
        return x;
    }

    @Boundary(of = 21, says = "Tells in how many hours all letters of a plate could be read")
    static void readableWithJustEnoughLight() {
        int[][] hours = {{50, 0}, {51, 1}, {75, 1}, {76, 2}, {87, 2}, {88, 3}, {93, 3}, {94, 4}, {99, 6}};
        for (int place : new int[] {0, 119}) {
            PlateWriters x = halfLight(place);
            light("half of the light", x.at(place / 12, place % 12, 3), 0.5f);
            for (int[] it : hours) {
                x.set(READ, it[0]);
                due("READ " + it[0], x.readableIn(0), it[1]);
            }
        }
    }

    @Boundary(of = 21, says = "(from left to right)")
    static void oneBitOfLightDecidesTheHours() {
        int[][] cases = {{10, 32, 66, 2}, {6, 10, 73, 2}, {6, 30, 79, 2}, {10, 6, 53, 1}};
        for (int[] it : cases) {
            PlateWriters x = desk(5);
            x.set(NEAR, it[0]);
            x.set(CLEAR, it[1]);
            x.write(0, 4, 5, 0);
            x.write(0, 4, 4, 0);
            x.set(READ, it[2]);
            float hour = clear(dim(1.0f, 5 * it[0]), it[1]);
            sure("an hour misses or hits it by a bit", hour == (it[3] == 2 ? Math.nextDown(it[2] / 100.0f) : it[2] / 100.0f));
            due("READ " + it[2], x.readableIn(0), it[3]);
        }
    }

    @Boundary(of = 21, says = "if it was laid aside now (or lies there)")
    static void readableOnTheDeskAndAside() {
        PlateWriters x = halfLight(0);
        x.set(READ, 76);
        due("on the desk", x.readableIn(0), 2);
        x.plate();
        due("aside", x.readableIn(0), 2);
        x.pass(1);
        due("an hour later", x.readableIn(0), 1);
        x.pass(1);
        due("two hours later", x.readableIn(0), 0);
        x.lay(0);
        due("it can be read", x.at(0, 0, 6), 1);
    }

    @Boundary(of = 21, says = "Tells in how many hours all letters of a plate could be read")
    static void theSlowestLetterDecides() {
        PlateWriters x = desk(1, 5);
        x.set(READ, 1);
        x.write(0, 0, 0, 0);
        x.write(0, 4, 4, 0);
        x.write(0, 9, 11, 0);
        x.set(CLEAR, 50);
        x.set(NEAR, 10);
        x.write(1, 5, 5, 0);
        x.write(1, 3, 3, 0);
        x.set(READ, 70);
        light("a quarter of the light", x.at(4, 4, 3), 0.25f);
        due("the letter between two", x.readableIn(0), 2);
        x.rub(4, 4);
        due("without it", x.readableIn(0), 0);
    }

    @Boundary(of = 21, says = "all letters of a plate")
    static void darkPlacesWithoutLettersDoNotMatter() {
        PlateWriters x = desk(5);
        x.promise(0, 0, 0);
        x.set(NEAR, 18);
        x.write(0, 0, 1, 0);
        light("a promised place is dark", x.at(0, 0, 3), dim(1.0f, 90));
        due("readableIn(0)", x.readableIn(0), 0);
    }

    /** A letter without any light, READ 99 and CLEAR 1: as slow as it can be. */
    private static PlateWriters slowest() {
        PlateWriters x = desk(5);
        x.write(0, 0, 0, 0);
        x.set(NEAR, 18);
        writeAndRub(x, 50, 1, 1);
        x.set(READ, 99);
        x.set(CLEAR, 1);
        return x;
    }

    @Boundary(of = 21, says = "NONE if not within 500")
    static void theMostHoursThatThereAre() {
        int hours = 0;
        for (float light = 0.0f; light < 99.0f / 100.0f; light = clear(light, 1)) hours++;
        PlateWriters x = slowest();
        due("the light is gone", x.at(0, 0, 3), 0);
        due("readableIn(0)", x.readableIn(0), hours);
        due("hours", hours, 459);
    }

    @Boundary(of = 21, says = "NONE if not within 500")
    static void neverReadableWithoutClearing() {
        PlateWriters x = slowest();
        x.set(CLEAR, 0);
        due("readableIn(0)", x.readableIn(0), NONE);
        x = desk(5, 1);
        x.write(1, 0, 0, 0);
        x.write(0, 0, 1, 0);
        x.set(CLEAR, 0);
        x.set(READ, 70);
        due("just enough light", x.readableIn(0), 0);
        x.set(READ, 71);
        due("a hundredth is missing", x.readableIn(0), NONE);
    }

    @Boundary(of = 21, says = "(the bound of hours does not matter)")
    static void readableBehindTheLastHour() {
        PlateWriters x = halfLight(0);
        for (int i = 0; i < 208; i++) x.pass(48);
        x.pass(15);
        x.set(READ, 88);
        due("count(0)", x.count(0), 9999);
        due("pass(1)", x.pass(1), NOT_POSSIBLE);
        due("readableIn(0)", x.readableIn(0), 3);
    }

    @Boundary(of = 21, says = "what if; nothing changes")
    static void readableInChangesNothing() {
        stays("readableIn(0)", WhatIfBoundariesTest::slowest, d -> d.readableIn(0), 459);
        stays("readableIn(0)", () -> halfLight(119), d -> d.readableIn(0), 0);
    }

    public static void main(String[] args) {
        runAll(WhatIfBoundariesTest.class);
    }
}
