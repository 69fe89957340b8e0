/** The boundaries of promises 26 to 28: undo and saved states. */
public final class KeepingBoundariesTest extends Checks {

    // ---- promise 26: undo

    @Boundary(of = 26, says = "NOT_POSSIBLE if there is none")
    static void undoOfNothing() {
        stays("undo()", PlateWriters::new, d -> d.undo(), NOT_POSSIBLE);
        PlateWriters x = new PlateWriters();
        x.pass(1);
        due("undo()", x.undo(), 0);
        due("undo() again", x.undo(), NOT_POSSIBLE);
        due("undo() once more", x.undo(), NOT_POSSIBLE);
        due("count(0)", x.count(0), 0);
        due("count(9)", x.count(9), 0);
    }

    @Boundary(of = 26, says = "A history of at most 6 states is kept")
    static void sixChangesAreKept() {
        PlateWriters x = new PlateWriters();
        for (int i = 1; i <= 6; i++) {
            x.pass(1);
            due("count(9)", x.count(9), i);
        }
        for (int i = 5; i >= 0; i--) {
            due("undo()", x.undo(), i);
            due("count(9)", x.count(9), i);
            due("count(0)", x.count(0), i);
        }
        due("undo()", x.undo(), NOT_POSSIBLE);
    }

    @Boundary(of = 26, says = "when one more is recorded, the oldest one is dropped")
    static void theSeventhChangeDropsTheFirst() {
        for (int changes = 7; changes <= 22; changes++) {
            PlateWriters x = new PlateWriters();
            for (int i = 0; i < changes; i++) x.pass(1);
            due("count(9)", x.count(9), 6);
            for (int i = 5; i >= 0; i--) due("undo()", x.undo(), i);
            due("count(0)", x.count(0), changes - 6);
            due("undo()", x.undo(), NOT_POSSIBLE);
        }
    }

    @Boundary(of = 26, says = "Undoes the latest change")
    static void changesBehindAnUndo() {
        PlateWriters x = new PlateWriters();
        for (int i = 0; i < 9; i++) x.pass(1);
        for (int i = 0; i < 4; i++) x.undo();
        due("count(0)", x.count(0), 5);
        x.pass(20);
        due("count(9)", x.count(9), 3);
        due("undo()", x.undo(), 2);
        due("count(0)", x.count(0), 5);
        due("undo()", x.undo(), 1);
        due("count(0)", x.count(0), 4);
        for (int i = 0; i < 6; i++) x.pass(2);
        due("count(9)", x.count(9), 6);
        for (int i = 5; i >= 0; i--) {
            due("undo()", x.undo(), i);
            due("count(0)", x.count(0), 4 + 2 * i);
        }
        due("undo()", x.undo(), NOT_POSSIBLE);
    }

    @Boundary(of = 26, says = "(also if nothing is different then)")
    static void aChangeThatMakesNothingDifferent() {
        changes("set(READ, 40)", Checks::someDesk, d -> d.set(READ, 40), 40);
        PlateWriters x = desk();
        x.save(0);
        due("restore of what there is", x.restore(0), 1);
        due("count(9)", x.count(9), 2);
        due("undo()", x.undo(), 1);
        due("undo()", x.undo(), 0);
        due("count(1)", x.count(1), 0);
    }

    @Boundary(of = 26, says = "each method that is a change, and returns no error, records the state before it")
    static void errorsAndOtherCallsRecordNothing() {
        PlateWriters x = someDesk();
        Call[] none = {d -> d.set(4, 0), d -> d.lay(9), d -> d.writer(0), d -> d.write(0, 5, 5, 0),
            d -> d.promise(0, 5, 5), d -> d.takeBack(0, 0), d -> d.rub(0, 0), d -> d.pass(0), d -> d.at(0, 0, 3),
            d -> d.row(0, 0), d -> d.of(0, 0), d -> d.ofPlate(0, 0), d -> d.count(0), d -> d.mean(),
            d -> d.ifWritten(0, 0, 0, 2), d -> d.bestPlace(), d -> d.fills(0), d -> d.whoDims(5, 6),
            d -> d.readableIn(0), d -> d.put(packed("n")), d -> d.fault(), d -> d.carryOut(), d -> d.wipe(),
            d -> d.save(0), d -> d.save(2), d -> d.restore(2)};
        for (int i = 0; i < none.length; i++) {
            none[i].on(x);
            due("count(9) behind call " + i, x.count(9), 2);
        }
    }

    @Boundary(of = 26, says = "each method that is a change, and returns no error, records the state before it")
    static void eachChangeCanBeUndone() {
        changes("set", Checks::someDesk, d -> d.set(NEAR, 18), 6);
        changes("plate", Checks::someDesk, d -> d.plate(), 2);
        changes("lay", Checks::someDesk, d -> d.lay(0), 1);
        changes("writer", Checks::someDesk, d -> d.writer(3), 2);
        changes("write", Checks::someDesk, d -> d.write(0, 5, 6, 3), 0);
        changes("promise", Checks::someDesk, d -> d.promise(0, 5, 6), 3);
        changes("takeBack", Checks::someDesk, d -> d.takeBack(2, 9), 0);
        changes("rub", Checks::someDesk, d -> d.rub(5, 5), 7);
        changes("pass", Checks::someDesk, d -> d.pass(9), 11);
        changes("restore", Checks::someDesk, d -> d.restore(0), 1);
    }

    @Boundary(of = 26, says = "Undoes the latest change")
    static void whatIsSpoiledIsUndoneAlso() {
        PlateWriters x = desk(1, 5);
        x.write(0, 0, 0, 0);
        x.set(READ, 71);
        due("write", x.write(1, 0, 1, 0), 1);
        due("of(1, 5)", x.of(1, 5), 1);
        x.undo();
        due("of(1, 5)", x.of(1, 5), 0);
        due("of(1, 4)", x.of(1, 4), 0);
        due("of(1, 1)", x.of(1, 1), 0);
        light("at(0, 0, 3)", x.at(0, 0, 3), 1.0f);
        due("write", x.write(1, 0, 1, 0), 1);
    }

    @Boundary(of = 26, says = "everything except the pad, the slots and the history is as it was before it")
    static void howHardWasPressedIsUndoneAlso() {
        PlateWriters x = new PlateWriters();
        x.save(0);
        x.writer(5);
        x.writer(4);
        x.restore(0);
        x.writer(1);
        x.writer(2);
        for (int i = 0; i < 3; i++) x.undo();
        due("count(3)", x.count(3), 2);
        due("of(0, 0)", x.of(0, 0), 5);
        due("of(1, 0)", x.of(1, 0), 4);
    }

    @Boundary(of = 26, says = "everything except the pad, the slots and the history is as it was before it")
    static void thePadStaysBehindAnUndo() {
        PlateWriters x = desk();
        put(x, "h1;h1");
        due("undo()", x.undo(), 0);
        due("count(8)", x.count(8), 5);
        due("carryOut()", x.carryOut(), 2);
        due("undo()", x.undo(), 0);
        due("the pad that was carried out stays empty", x.count(8), 0);
        due("count(0)", x.count(0), 0);
    }

    @Boundary(of = 26, says = "everything except the pad, the slots and the history is as it was before it")
    static void theSlotsStayBehindAnUndo() {
        PlateWriters x = desk(5);
        x.pass(3);
        x.save(1);
        x.undo();
        x.undo();
        x.undo();
        due("count(1)", x.count(1), 0);
        due("restore(0)", x.restore(0), NOT_POSSIBLE);
        due("restore(1)", x.restore(1), 1);
        due("count(0)", x.count(0), 3);
        due("count(3)", x.count(3), 1);
        due("undo()", x.undo(), 0);
        due("restore(1) behind it", x.restore(1), 1);
    }

    @Boundary(of = 26, says = "An order of a text records nothing by itself.")
    static void theOrdersOfATextAreUndoneTogether() {
        PlateWriters x = new PlateWriters();
        x.pass(1);
        due("carryOut()", carry(x, "h1;h1;h1;h1;h1;h1;h1"), 7);
        due("count(9)", x.count(9), 2);
        due("undo()", x.undo(), 1);
        due("count(0)", x.count(0), 1);
        due("undo()", x.undo(), 0);
        due("count(0)", x.count(0), 0);
    }

    @Boundary(of = 26, says = "Returns how many changes can be undone then")
    static void anUndoIsNoChange() {
        PlateWriters x = new PlateWriters();
        x.pass(1);
        x.pass(2);
        due("undo()", x.undo(), 1);
        due("count(0)", x.count(0), 1);
        due("undo() goes on", x.undo(), 0);
        due("count(0)", x.count(0), 0);
    }

    // ---- promise 27: save

    @Boundary(of = 27, says = "BAD_VALUE if there is no such slot")
    static void saveInNoSlot() {
        for (int slot : new int[] {-1, 2, MIN, MAX}) refused("save(" + slot + ")", d -> d.save(slot), BAD_VALUE);
    }

    @Boundary(of = 27, says = "`slot`: 0 or 1")
    static void bothSlotsKeepTheirOwn() {
        PlateWriters x = new PlateWriters();
        due("save(0)", x.save(0), 0);
        x.plate();
        due("save(1)", x.save(1), 1);
        x.plate();
        due("restore(0)", x.restore(0), 0);
        due("restore(1)", x.restore(1), 1);
        due("restore(0)", x.restore(0), 0);
    }

    @Boundary(of = 27, says = "Returns how many plates there are")
    static void saveOfNoneAndOfAllPlates() {
        PlateWriters x = new PlateWriters();
        for (int plates = 0; plates <= 4; plates++) {
            due("save(0)", x.save(0), plates);
            x.plate();
        }
    }

    @Boundary(of = 27, says = "and overwrites what was saved there")
    static void saveOverwrites() {
        PlateWriters x = busyDesk();
        due("save(0)", x.save(0), 2);
        x.rub(5, 5);
        x.plate();
        due("save(0) again", x.save(0), 3);
        x.restore(1);
        due("restore(0)", x.restore(0), 3);
        x.lay(1);
        due("at(5, 5, 0)", x.at(5, 5, 0), NONE);
        PlateWriters y = busyDesk();
        for (int i = 0; i < 6; i++) y.undo();
        y.restore(0);
        y.save(1);
        due("fewer plates than were saved there", y.restore(1), 1);
        due("count(1)", y.count(1), 1);
    }

    @Boundary(of = 27, says = "Saves everything except the pad, the history and the slots in a slot")
    static void saveIsNoChange() {
        PlateWriters x = someDesk();
        due("save(0)", x.save(0), 2);
        due("count(9)", x.count(9), 2);
        due("count(8)", x.count(8), 5);
        due("count(0)", x.count(0), 2);
    }

    @Boundary(of = 27, says = "Saves everything except the pad, the history and the slots in a slot")
    static void whatComesBehindASaveIsNotSaved() {
        Call[] changes = {d -> d.set(CLEAR, 3), d -> d.plate(), d -> d.lay(0), d -> d.writer(2),
            d -> d.write(1, 5, 6, 9), d -> d.promise(0, 9, 11), d -> d.takeBack(2, 9), d -> d.rub(5, 5), d -> d.pass(7),
            d -> d.undo(), d -> carry(d, ";n")};
        for (int i = 0; i < changes.length; i++) {
            Call change = changes[i];
            same("saved ahead of change " + i, () -> {
                PlateWriters x = someDesk();
                x.set(CLEAR, 20);
                x.save(1);
                change.on(x);
                x.wipe();
                return keptInSlotOne(x);
            }, () -> {
                PlateWriters x = someDesk();
                x.set(CLEAR, 20);
                x.save(1);
                x.wipe();
                return keptInSlotOne(x);
            });
        }
    }

    /** Restored, and with a history that is full of the same changes. */
    private static PlateWriters keptInSlotOne(PlateWriters x) {
        x.restore(1);
        for (int i = 0; i < 6; i++) x.pass(1);
        return x;
    }

    // ---- promise 28: restore

    @Boundary(of = 28, says = "BAD_VALUE if there is no such slot")
    static void restoreOfNoSlot() {
        for (int slot : new int[] {-1, 2, MIN, MAX}) {
            refused("restore(" + slot + ")", d -> d.restore(slot), BAD_VALUE);
            stays("restore(" + slot + ") where nothing is saved", PlateWriters::new, d -> d.restore(slot), BAD_VALUE);
        }
    }

    @Boundary(of = 28, says = {"`slot`: 0 or 1", "NOT_POSSIBLE if nothing was saved in it"})
    static void restoreOfNothing() {
        stays("restore(0)", PlateWriters::new, d -> d.restore(0), NOT_POSSIBLE);
        stays("restore(1)", PlateWriters::new, d -> d.restore(1), NOT_POSSIBLE);
        for (int slot = 0; slot < 2; slot++) {
            int saved = slot;
            Made made = () -> {
                PlateWriters x = desk(5);
                x.save(saved);
                return x;
            };
            stays("the other slot than " + slot, made, d -> d.restore(1 - saved), NOT_POSSIBLE);
            due("restore(" + slot + ")", made.desk().restore(slot), 1);
        }
    }

    @Boundary(of = 28, says = "Restores what was saved last in a slot")
    static void restoreOfAnEmptyDesk() {
        PlateWriters x = new PlateWriters();
        x.save(0);
        x.plate();
        x.writer(5);
        x.set(READ, 99);
        x.pass(48);
        due("restore(0)", x.restore(0), 0);
        int[] counts = {0, 0, NONE, 0, 6, 2, 40, 10, 0, 5};
        for (int what = 0; what < 10; what++) due("count(" + what + ")", x.count(what), counts[what]);
        due("bestPlace()", x.bestPlace(), NO_SUCH);
        due("plate()", x.plate(), 0);
        due("writer(2)", x.writer(2), 0);
    }

    @Boundary(of = 28, says = "Restores what was saved last in a slot")
    static void restoreOfAllAboutAWriter() {
        PlateWriters x = desk(5);
        x.write(0, 4, 4, 0);
        x.set(READ, 71);
        x.save(1);
        for (int i = 0; i < 4; i++) x.undo();
        x.writer(1);
        due("restore(1)", x.restore(1), 1);
        int[] want = {5, 1, 1, 0, 1, 0};
        for (int what = 0; what < 6; what++) due("of(0, " + what + ")", x.of(0, what), want[what]);
    }

    @Boundary(of = 28, says = "Returns how many plates there are then")
    static void restoreOfAllPlates() {
        PlateWriters x = desk(5);
        x.write(0, 4, 4, 4);
        for (int i = 0; i < 3; i++) x.plate();
        x.promise(0, 9, 11);
        x.save(1);
        x.save(0);
        x.takeBack(9, 11);
        x.lay(0);
        x.rub(4, 4);
        due("restore(1)", x.restore(1), 4);
        due("count(2)", x.count(2), 3);
        due("at(9, 11, 2)", x.at(9, 11, 2), 0);
        x.lay(0);
        due("at(4, 4, 0)", x.at(4, 4, 0), 4);
        light("at(4, 4, 3)", x.at(4, 4, 3), 1.0f);
    }

    @Boundary(of = 28, says = "which keeps it")
    static void theSlotKeepsIt() {
        for (int slot = 0; slot < 2; slot++) {
            int kept = slot;
            Call[] changes = {d -> d.plate(), d -> d.write(0, 9, 9, 1), d -> d.pass(1), d -> d.set(NEAR, 1),
                d -> d.writer(4), d -> d.rub(5, 5), d -> d.takeBack(2, 9), d -> d.undo()};
            for (int i = 0; i < changes.length; i++) {
                Call change = changes[i];
                same("restore(" + slot + ") behind change " + i, () -> {
                    PlateWriters x = someDesk();
                    x.restore(kept);
                    change.on(x);
                    x.restore(kept);
                    for (int hour = 0; hour < 6; hour++) x.pass(1);
                    return x;
                }, () -> {
                    PlateWriters x = someDesk();
                    x.restore(kept);
                    for (int hour = 0; hour < 6; hour++) x.pass(1);
                    return x;
                });
            }
        }
    }

    @Boundary(of = 28, says = "This is a change.")
    static void restoreIsAChange() {
        changes("restore(0)", Checks::someDesk, d -> d.restore(0), 1);
        changes("restore(1)", Checks::someDesk, d -> d.restore(1), 2);
    }

    @Boundary(of = 28, says = "Restores what was saved last in a slot, which keeps it.")
    static void thePadTheHistoryAndTheSlotsAreNotRestored() {
        PlateWriters x = someDesk();
        put(x, ";n");
        x.set(READ, 50);
        due("restore(0)", x.restore(0), 1);
        due("count(8)", x.count(8), 7);
        due("count(9)", x.count(9), 4);
        due("restore(1): the other slot stays", x.restore(1), 2);
        due("undo()", x.undo(), 4);
        due("count(1)", x.count(1), 1);
        due("undo()", x.undo(), 3);
        due("count(6)", x.count(6), 50);
    }

    public static void main(String[] args) {
        runAll(KeepingBoundariesTest.class);
    }
}
