/** The boundaries of promises 1 to 5 and 10: a new object, settings, plates, writers and hours. */
public final class DeskBoundariesTest extends Checks {

    // ---- promise 1: a new object

    @Boundary(of = 1, says = "Creates a desk without plates and writers.")
    static void aNewDeskHasNone() {
        PlateWriters x = new PlateWriters();
        due("count(0)", x.count(0), 0);
        due("count(1)", x.count(1), 0);
        due("count(2)", x.count(2), NONE);
        due("count(3)", x.count(3), 0);
        due("count(8)", x.count(8), 0);
        due("count(9)", x.count(9), 0);
    }

    @Boundary(of = 1, says = "Creates a desk without plates and writers.")
    static void aNewDeskKeepsNothing() {
        PlateWriters x = new PlateWriters();
        due("undo()", x.undo(), NOT_POSSIBLE);
        due("restore(0)", x.restore(0), NOT_POSSIBLE);
        due("restore(1)", x.restore(1), NOT_POSSIBLE);
        due("wipe()", x.wipe(), 0);
        due("fault()", x.fault(), 0);
    }

    @Boundary(of = 1, says = "Creates a desk without plates and writers.")
    static void twoDesksShareNothing() {
        PlateWriters x = busyDesk(), y = new PlateWriters();
        due("count(1)", y.count(1), 0);
        due("count(3)", y.count(3), 0);
        due("count(8)", y.count(8), 0);
        due("count(9)", y.count(9), 0);
        due("restore(0)", y.restore(0), NOT_POSSIBLE);
        y.plate();
        y.wipe();
        due("count(1) of the other", x.count(1), 2);
        due("count(8) of the other", x.count(8), 5);
    }

    @Boundary(of = 1, says = {"(In parentheses: range; first value.)", "NEAR (0 to 18; 6)"})
    static void nearIsSixAtFirst() {
        due("count(4)", new PlateWriters().count(4), 6);
    }

    @Boundary(of = 1, says = "FAR (0 to 9; 2)")
    static void farIsTwoAtFirst() {
        due("count(5)", new PlateWriters().count(5), 2);
    }

    @Boundary(of = 1, says = "READ (1 to 99; 40)")
    static void readIsFortyAtFirst() {
        due("count(6)", new PlateWriters().count(6), 40);
    }

    @Boundary(of = 1, says = "CLEAR (0 to 50; 10)")
    static void clearIsTenAtFirst() {
        due("count(7)", new PlateWriters().count(7), 10);
    }

    @Boundary(of = 1, says = {
        "A method that fails returns one of the error codes NO_SUCH (-1), BAD_VALUE (-2), BAD_TEXT (-3), TOO_MANY "
            + "(-4) and NOT_POSSIBLE (-5)",
        "Error codes, and NONE: there is none.",
        "`NEAR = 0, FAR = 1, READ = 2, CLEAR = 3`: Settings."})
    static void theConstants() {
        int[] codes = {PlateWriters.NO_SUCH, PlateWriters.BAD_VALUE, PlateWriters.BAD_TEXT, PlateWriters.TOO_MANY,
            PlateWriters.NOT_POSSIBLE, PlateWriters.NONE};
        for (int i = 0; i < codes.length; i++) due("code " + i, codes[i], -1 - i);
        int[] settings = {PlateWriters.NEAR, PlateWriters.FAR, PlateWriters.READ, PlateWriters.CLEAR};
        for (int i = 0; i < settings.length; i++) due("setting " + i, settings[i], i);
    }

    // ---- promise 2: set

    /** The least and the most of a setting are taken; what is one further is refused. */
    private static void range(int setting, int least, int most, int first) {
        PlateWriters x = new PlateWriters();
        due("set to the least", x.set(setting, least), first);
        due("count of the least", x.count(4 + setting), least);
        due("set to the most", x.set(setting, most), least);
        due("count of the most", x.count(4 + setting), most);
        for (int value : new int[] {least - 1, most + 1, MIN, MAX})
            refused("set(" + setting + ", " + value + ")", d -> d.set(setting, value), BAD_VALUE);
    }

    @Boundary(of = 2, says = "NEAR (0 to 18; 6): what the first ring loses, times how hard is pressed")
    static void rangeOfNear() {
        range(NEAR, 0, 18, 6);
    }

    @Boundary(of = 2, says = "FAR (0 to 9; 2): what the second ring loses, likewise")
    static void rangeOfFar() {
        range(FAR, 0, 9, 2);
    }

    @Boundary(of = 2, says = "READ (1 to 99; 40): hundredths of light that a letter needs")
    static void rangeOfRead() {
        range(READ, 1, 99, 40);
    }

    @Boundary(of = 2, says = "CLEAR (0 to 50; 10): hundredths by which a plate clears in an hour")
    static void rangeOfClear() {
        range(CLEAR, 0, 50, 10);
    }

    @Boundary(of = 2, says = "BAD_VALUE if there is no such setting, or the value is out of its range")
    static void noSuchSetting() {
        for (int setting : new int[] {-1, 4, MIN, MAX})
            for (int value : new int[] {1, 100})
                refused("set(" + setting + ", " + value + ")", d -> d.set(setting, value), BAD_VALUE);
    }

    @Boundary(of = 2, says = "Returns the previous value")
    static void setToWhatItIs() {
        PlateWriters x = new PlateWriters();
        int[] first = {6, 2, 40, 10};
        for (int setting = 0; setting < 4; setting++) {
            due("set", x.set(setting, first[setting]), first[setting]);
            due("set again", x.set(setting, first[setting]), first[setting]);
        }
    }

    @Boundary(of = 2, says = "Changes a setting. This is a change.")
    static void setIsAChange() {
        int[] value = {0, 9, 99, 50}, first = {6, 2, 40, 10};
        for (int s = 0; s < 4; s++) {
            int setting = s;
            changes("set(" + s + ")", Checks::someDesk, d -> d.set(setting, value[setting]), first[s]);
        }
    }

    @Boundary(of = 2, says = "Changes a setting.")
    static void oneSettingLeavesTheOthers() {
        for (int setting = 0; setting < 4; setting++) {
            PlateWriters x = new PlateWriters();
            x.set(setting, 1);
            int[] want = {6, 2, 40, 10};
            want[setting] = 1;
            for (int other = 0; other < 4; other++) due("count(" + (4 + other) + ")", x.count(4 + other), want[other]);
        }
    }

    // ---- promise 3: plate

    private static PlateWriters fourPlates() {
        PlateWriters x = busyDesk();
        x.plate();
        x.plate();
        x.lay(1);
        return x;
    }

    @Boundary(of = 3, says = {
        "There are up to 4 plates, numbered from 0 in the order in which they came",
        "TOO_MANY if there are 4 plates"})
    static void theFourthPlateIsTheLast() {
        PlateWriters x = new PlateWriters();
        for (int plate = 0; plate < 4; plate++) due("plate()", x.plate(), plate);
        due("plate()", x.plate(), TOO_MANY);
        due("count(1)", x.count(1), 4);
        stays("plate() with 4 plates", DeskBoundariesTest::fourPlates, d -> d.plate(), TOO_MANY);
    }

    @Boundary(of = 3, says = "Returns its number")
    static void theFirstPlateIsNumberZero() {
        changes("plate()", PlateWriters::new, d -> d.plate(), 0);
    }

    @Boundary(of = 3, says = "A plate comes, and is on the desk; the one that was there is aside. This is a change.")
    static void aPlateComesOnTheDesk() {
        changes("plate()", Checks::someDesk, d -> d.plate(), 2);
        PlateWriters x = desk(5);
        x.write(0, 0, 0, 0);
        x.plate();
        due("count(2)", x.count(2), 1);
        x.pass(1);
        x.lay(0);
        light("the light of the one that is aside", x.at(0, 1, 3), clear(dim(1.0f, 30), 10));
    }

    @Boundary(of = 3, says =
        "each with light (1.0f at first), with a letter (0 to 25) of a writer, or none, and promised to a writer, "
            + "or not")
    static void aPlateComesEmpty() {
        PlateWriters x = busyDesk();
        x.plate();
        for (int place = 0; place < 120; place++) {
            int row = place / 12, column = place % 12;
            due("letter", x.at(row, column, 0), NONE);
            due("writer", x.at(row, column, 1), NONE);
            due("promised", x.at(row, column, 2), NONE);
            due("the bits of 1.0f", x.at(row, column, 3), 0x3f800000);
        }
    }

    @Boundary(of = 3, says = "A plate comes, and is on the desk")
    static void aPlateComesEmptyWhereAnotherWasUndone() {
        PlateWriters x = desk(5);
        x.plate();
        x.write(0, 3, 3, 3);
        x.promise(0, 8, 8);
        for (int i = 0; i < 3; i++) x.undo();
        due("plate()", x.plate(), 1);
        due("at(3, 3, 0)", x.at(3, 3, 0), NONE);
        due("at(3, 3, 1)", x.at(3, 3, 1), NONE);
        due("at(8, 8, 2)", x.at(8, 8, 2), NONE);
        light("at(3, 4, 3)", x.at(3, 4, 3), 1.0f);
    }

    @Boundary(of = 3, says = "A plate has 10 rows and 12 columns of places")
    static void theLastRowAndColumn() {
        PlateWriters x = desk(1);
        due("at(9, 11, 0)", x.at(9, 11, 0), NONE);
        due("at(10, 11, 0)", x.at(10, 11, 0), NO_SUCH);
        due("at(9, 12, 0)", x.at(9, 12, 0), NO_SUCH);
    }

    // ---- promise 4: lay

    @Boundary(of = 4, says = "NO_SUCH if there is no such plate")
    static void layOfNoPlate() {
        for (int plate : new int[] {-1, 2, 3, 4, NONE, MIN, MAX})
            refused("lay(" + plate + ")", d -> d.lay(plate), NO_SUCH);
    }

    @Boundary(of = 4, says = "NO_SUCH if there is no such plate")
    static void layWithoutPlates() {
        for (int plate : new int[] {0, -1, NONE, MIN, MAX})
            stays("lay(" + plate + ")", PlateWriters::new, d -> d.lay(plate), NO_SUCH);
    }

    @Boundary(of = 4, says = "Returns the one that was there; NO_SUCH if there is no such plate")
    static void layOfTheFirstAndTheLast() {
        PlateWriters x = fourPlates();
        due("lay(0)", x.lay(0), 1);
        due("lay(3)", x.lay(3), 0);
        due("lay(4)", x.lay(4), NO_SUCH);
        due("count(2)", x.count(2), 3);
    }

    @Boundary(of = 4, says = "NOT_POSSIBLE if it is there")
    static void layOfTheOneThatIsThere() {
        refused("lay(1)", d -> d.lay(1), NOT_POSSIBLE);
        stays("lay(0)", () -> desk(), d -> d.lay(0), NOT_POSSIBLE);
    }

    @Boundary(of = 4, says = "A plate is laid on the desk. This is a change.")
    static void layIsAChange() {
        changes("lay(0)", Checks::someDesk, d -> d.lay(0), 1);
    }

    @Boundary(of = 4, says = "the one on the desk is the latest one that came or was laid there; the others are aside")
    static void theOneThatWasThereIsAside() {
        PlateWriters x = desk(5);
        x.write(0, 0, 0, 0);
        x.plate();
        x.write(0, 0, 0, 0);
        x.lay(0);
        x.pass(1);
        light("on the desk nothing clears", x.at(0, 1, 3), dim(1.0f, 30));
        due("lay(1)", x.lay(1), 0);
        light("aside it did", x.at(0, 1, 3), clear(dim(1.0f, 30), 10));
    }

    // ---- promise 5: writer

    @Boundary(of = 5, says = "BAD_VALUE if press is out of range")
    static void pressOutOfRange() {
        for (int press : new int[] {0, 6, -1, MIN, MAX})
            refused("writer(" + press + ")", d -> d.writer(press), BAD_VALUE);
    }

    @Boundary(of = 5, says = {"each presses 1 to 5", "`press`: 1 to 5"})
    static void theLeastAndTheMostPress() {
        PlateWriters x = new PlateWriters();
        due("writer(1)", x.writer(1), 0);
        due("writer(5)", x.writer(5), 1);
        due("of(0, 0)", x.of(0, 0), 1);
        due("of(1, 0)", x.of(1, 0), 5);
    }

    private static PlateWriters fiveWriters() {
        PlateWriters x = busyDesk();
        x.writer(2);
        x.writer(3);
        x.writer(4);
        return x;
    }

    @Boundary(of = 5, says = {
        "There are up to 5 writers, numbered in the order in which they came",
        "TOO_MANY if there are 5 writers"})
    static void theFifthWriterIsTheLast() {
        PlateWriters x = new PlateWriters();
        for (int who = 0; who < 5; who++) due("writer(3)", x.writer(3), who);
        due("writer(3)", x.writer(3), TOO_MANY);
        due("count(3)", x.count(3), 5);
        stays("writer(1) with 5 writers", DeskBoundariesTest::fiveWriters, d -> d.writer(1), TOO_MANY);
        stays("writer(5) with 5 writers", DeskBoundariesTest::fiveWriters, d -> d.writer(5), TOO_MANY);
    }

    @Boundary(of = 5, says = "BAD_VALUE if press is out of range; TOO_MANY if there are 5 writers")
    static void badPressIsToldAheadOfTooMany() {
        for (int press : new int[] {0, 6, MIN, MAX})
            stays("writer(" + press + ")", DeskBoundariesTest::fiveWriters, d -> d.writer(press), BAD_VALUE);
    }

    @Boundary(of = 5, says = "A writer comes. This is a change.")
    static void writerIsAChange() {
        changes("writer(5)", Checks::someDesk, d -> d.writer(5), 2);
        changes("the first writer(1)", PlateWriters::new, d -> d.writer(1), 0);
    }

    @Boundary(of = 5, says = "Returns its number")
    static void aWriterComesWithoutLetters() {
        PlateWriters x = busyDesk();
        x.writer(4);
        int[] want = {4, 0, 0, 0, 0, 0};
        for (int what = 0; what < 6; what++) due("of(2, " + what + ")", x.of(2, what), want[what]);
    }

    @Boundary(of = 5, says = "Returns its number")
    static void aWriterComesAnewWhereAnotherWasUndone() {
        PlateWriters x = desk(1);
        x.write(0, 0, 0, 0);
        x.writer(5);
        x.set(READ, 71);
        due("write(1, 0, 1, 0)", x.write(1, 0, 1, 0), 1);
        for (int i = 0; i < 3; i++) x.undo();
        due("writer(2)", x.writer(2), 1);
        due("of(1, 0)", x.of(1, 0), 2);
        due("of(1, 4)", x.of(1, 4), 0);
        due("of(1, 5)", x.of(1, 5), 0);
    }

    // ---- promise 10: pass

    @Boundary(of = 10, says = "BAD_VALUE if hours is out of range")
    static void hoursOutOfRange() {
        for (int hours : new int[] {0, 49, -1, MIN, MAX})
            refused("pass(" + hours + ")", d -> d.pass(hours), BAD_VALUE);
    }

    @Boundary(of = 10, says = "`hours`: 1 to 48")
    static void theLeastAndTheMostHours() {
        PlateWriters x = new PlateWriters();
        due("pass(1)", x.pass(1), 1);
        due("pass(48)", x.pass(48), 49);
    }

    private static PlateWriters lateDesk(int hours) {
        PlateWriters x = someDesk();
        for (int late = x.count(0); late < hours;) late = x.pass(Math.min(48, hours - late));
        for (int value = 11; value < 16; value++) x.set(CLEAR, value);
        return x;
    }

    @Boundary(of = 10, says = "NOT_POSSIBLE if they would be above 9999")
    static void theLastHour() {
        due("pass(1) at 9998", lateDesk(9998).pass(1), 9999);
        stays("pass(2) at 9998", () -> lateDesk(9998), d -> d.pass(2), NOT_POSSIBLE);
        stays("pass(1) at 9999", () -> lateDesk(9999), d -> d.pass(1), NOT_POSSIBLE);
        due("pass(48) at 9951", lateDesk(9951).pass(48), 9999);
        stays("pass(48) at 9952", () -> lateDesk(9952), d -> d.pass(48), NOT_POSSIBLE);
    }

    @Boundary(of = 10, says = "BAD_VALUE if hours is out of range; NOT_POSSIBLE if they would be above 9999")
    static void badHoursAreToldAheadOfTooLate() {
        for (int hours : new int[] {0, 49, MIN, MAX})
            stays("pass(" + hours + ") at 9999", () -> lateDesk(9999), d -> d.pass(hours), BAD_VALUE);
    }

    @Boundary(of = 10, says = "Hours pass. This is a change.")
    static void passIsAChange() {
        changes("pass(48)", Checks::someDesk, d -> d.pass(48), 50);
        changes("pass(1)", PlateWriters::new, d -> d.pass(1), 1);
    }

    private static PlateWriters fourCloudedPlates(int onDesk) {
        PlateWriters x = new PlateWriters();
        x.writer(5);
        for (int plate = 0; plate < 4; plate++) {
            x.plate();
            for (int place = 11; place < 118; place += 13 + plate) {
                x.write(0, place / 12, place % 12, 0);
                x.promise(0, (place + 1) / 12, (place + 1) % 12);
                x.write(0, (place + 2) / 12, (place + 2) % 12, 0);
            }
        }
        x.lay(onDesk);
        x.set(CLEAR, 37);
        return x;
    }

    @Boundary(of = 10, says =
        "In an hour the light of each place of each plate that is aside becomes light + (1.0f - light) * (float) "
            + "CLEAR / 100.0f")
    static void eachPlaceOfEachPlateAside() {
        for (int onDesk = 0; onDesk < 4; onDesk++)
            for (int plate = 0; plate < 4; plate++) {
                PlateWriters x = fourCloudedPlates(onDesk), before = fourCloudedPlates(onDesk);
                x.pass(3);
                x.lay(plate);
                before.lay(plate);
                int letters = 0, promises = 0;
                for (int place = 0; place < 120; place++) {
                    float light = lightOf(before, place);
                    if (light < 1.0f && before.at(place / 12, place % 12, 0) != NONE) letters++;
                    if (light < 1.0f && before.at(place / 12, place % 12, 2) != NONE) promises++;
                    for (int hour = 0; hour < 3 && plate != onDesk; hour++) light = clear(light, 37);
                    light("plate " + plate + ", place " + place, x.at(place / 12, place % 12, 3), light);
                }
                sure("letters and promised places are clouded also", letters > 0 && promises > 0);
            }
    }

    @Boundary(of = 10, says = "hundredths by which a plate clears in an hour")
    static void theLeastAndTheMostClearing() {
        for (int clear : new int[] {0, 1, 49, 50}) {
            PlateWriters x = desk(5);
            x.set(CLEAR, clear);
            x.write(0, 0, 0, 0);
            x.plate();
            x.pass(1);
            x.lay(0);
            light("first ring, CLEAR " + clear, x.at(0, 1, 3), clear(dim(1.0f, 30), clear));
            light("second ring, CLEAR " + clear, x.at(0, 2, 3), clear(dim(1.0f, 10), clear));
            light("full light, CLEAR " + clear, x.at(9, 9, 3), 1.0f);
        }
    }

    @Boundary(of = 10, says = "In an hour the light of each place")
    static void aPlaceThatIsDarkClearsAlso() {
        PlateWriters x = desk(5);
        x.set(NEAR, 18);
        writeAndRub(x, 60, 0, 1);
        due("the light is gone", x.at(0, 0, 3), 0);
        x.plate();
        x.pass(1);
        x.lay(0);
        light("at(0, 0, 3)", x.at(0, 0, 3), clear(0.0f, 10));
        x.lay(1);
        for (int i = 0; i < 5; i++) x.pass(48);
        x.lay(0);
        float light = 0.0f;
        for (int i = 0; i < 241; i++) light = clear(light, 10);
        light("at(0, 0, 3)", x.at(0, 0, 3), light);
    }

    @Boundary(of = 10, says = "Promises of a plate that is aside stay.")
    static void promisesAndLettersAsideStay() {
        PlateWriters x = desk(5, 1);
        x.promise(1, 9, 11);
        x.write(0, 0, 0, 25);
        x.plate();
        x.pass(48);
        x.lay(0);
        due("at(9, 11, 2)", x.at(9, 11, 2), 1);
        due("ofPlate(0, 2)", x.ofPlate(0, 2), 1);
        due("at(0, 0, 0)", x.at(0, 0, 0), 25);
        due("at(0, 0, 1)", x.at(0, 0, 1), 0);
    }

    @Boundary(of = 10, says = "Returns the hours so far")
    static void hoursWithoutPlates() {
        PlateWriters x = new PlateWriters();
        due("pass(5)", x.pass(5), 5);
        x.plate();
        due("pass(7)", x.pass(7), 12);
        due("count(0)", x.count(0), 12);
    }

    public static void main(String[] args) {
        runAll(DeskBoundariesTest.class);
    }
}
