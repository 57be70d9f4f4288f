/** Promises 14 to 16: snapshots, and states that are saved and undone. */
final class SnapshotsCases extends Cases {
    private SnapshotsCases() {
    }

    private static TailBlocks kept(TailBlocks x, int slot) {
        x.keep(slot);
        return x;
    }

    // ---- promise 14

    static void keepSlots() {
        says(14, "slot: 0 or 1");
        due("slot 0", 0, new TailBlocks().keep(0));
        due("slot 1", 0, new TailBlocks().keep(1));
        says(14, "Throws IllegalArgumentException if slot is out of range");
        thrown("slot", ARGUMENT, TailBlocks::new, (x, slot) -> x.keep(slot), -1, 2, MIN, MAX);
        thrown("slot", ARGUMENT, Cases::busy, (x, slot) -> x.keep(slot), -1, 2, MIN, MAX);
        says(14, "Returns how many files there are.");
        due("none", 0, new TailBlocks().keep(0));
        due("one", 1, ran("+0").keep(0));
        due("all", 10, tenFiles().keep(1));
    }

    static void keepInPlaceOfAnother() {
        says(14, "int keep(int slot) throws IllegalArgumentException:"
            + " Takes a snapshot, in place of the one in the slot.");
        TailBlocks x = kept(ran("+5"), 0);
        x.create(7);
        kept(x, 0);
        x.delete(0);
        due("the later one", 2, x.goBack(0));
        due("the later one", 5, x.fileOf(0, 0));
        TailBlocks y = kept(kept(ran("+5"), 0), 1);
        y.create(7);
        kept(y, 1);
        due("not in the other slot", 1, y.goBack(0));
        due("in its slot", 2, y.goBack(1));
        due("it saves no state", 1, kept(ran("+5"), 0).count(11));
        due("nor in place of another", 1, kept(kept(ran("+5"), 0), 0).count(11));
    }

    static void keepAllButTheRest() {
        says(TERMS, "There are two slots; a snapshot is all but the buffer, the slots and the saved states.");
        TailBlocks x = ran("+20;+5;+40");
        x.spoil(0);
        x.set(1);
        x.grow(0, 1);
        x.pack();
        x.set(1);
        long all = kept(kept(x, 0), 1).digest();
        x.set(0);
        x.spoil(23);
        x.delete(0);
        x.cut(1, 5);
        x.grow(1, 200);
        x.pack();
        type(x, "+1");
        due("files", 3, x.goBack(0));
        due("the buffer stays", 2, x.clearBuffer());
        dueCounts("all of the disk", x, 3, 19, 2, 2, 1, 49, 15, 1, 1, 1, 1, 6);
        due("all else too", all, x.digest());
        due("the other one holds the same", 3, x.goBack(1));
        due("the other one holds the same", all, x.digest());
        x.undo();
        x.undo();
        due("saved states stay, the latest is of before", 2, x.count(0));
    }

    // ---- promise 15

    static void goBackSlots() {
        says(15, "slot: 0 or 1");
        due("slot 0", 1, kept(ran("+1"), 0).goBack(0));
        due("slot 1", 1, kept(ran("+1"), 1).goBack(1));
        says(15, "Throws IllegalArgumentException if slot is out of range");
        thrown("slot", ARGUMENT, TailBlocks::new, (x, slot) -> x.goBack(slot), -1, 2, MIN, MAX);
        thrown("slot", ARGUMENT, Cases::busy, (x, slot) -> x.goBack(slot), -1, 2, MIN, MAX);
        says(15, "Throws IllegalStateException if there is no snapshot in it");
        thrown("on a new disk, slot", STATE, TailBlocks::new, (x, slot) -> x.goBack(slot), 0, 1);
        thrown("the other one is taken, slot", STATE, () -> kept(ran("+5"), 1), (x, slot) -> x.goBack(slot), 0);
        thrown("the other one is taken, slot", STATE, () -> kept(ran("+5"), 0), (x, slot) -> x.goBack(slot), 1);
    }

    static void goBackToOne() {
        says(15, "int goBack(int slot) throws IllegalArgumentException, IllegalStateException:"
            + " Goes back to a snapshot, which stays.");
        TailBlocks x = kept(ran("+5"), 0);
        x.delete(0);
        due("once", 1, x.goBack(0));
        x.grow(0, 1);
        x.grow(0, 1);
        due("again, as it was", 1, x.goBack(0));
        due("again, as it was", 5, x.fileOf(0, 0));
        says(15, "Returns how many files there are then.");
        due("all", 10, tenKept().goBack(0));
        TailBlocks none = emptyKept();
        due("none", 0, none.goBack(0));
        due("none are left", 0, none.count(0));
    }

    /** Ten files, the snapshot has none. */
    private static TailBlocks emptyKept() {
        TailBlocks x = kept(new TailBlocks(), 0);
        type(x, "+1;+1;+1;+1;+1;+1;+1;+1;+1;+1");
        x.run();
        return x;
    }

    /** No file, the snapshot has ten. */
    private static TailBlocks tenKept() {
        TailBlocks x = kept(tenFiles(), 0);
        type(x, "-0;-1;-2;-3;-4;-5;-6;-7;-8;-9");
        x.run();
        return x;
    }

    static void goBackSavesAState() {
        says(15, "Undoable.");
        undoable("another state", 0, SnapshotsCases::emptyKept, x -> x.goBack(0));
        undoable("the same state", 1, () -> kept(ran("+5"), 1), x -> x.goBack(1));
        TailBlocks x = ran("+5");
        x.create(6);
        x.keep(0);
        x.undo();
        due("slots are not undone", 2, x.goBack(0));
        x.undo();
        due("slots are not undone", 2, x.goBack(0));
    }

    // ---- promise 16

    static void undoNone() {
        says(16, "Throws IllegalStateException if there is none");
        thrown("on a new disk", STATE, TailBlocks::new, x -> x.undo());
        thrown("all are undone", STATE, () -> undone(ran("+5"), 1), x -> x.undo());
        thrown("all six are undone", STATE, () -> undone(with(1, 2, 3, 4, 5, 6), 6), x -> x.undo());
        thrown("six of seven are undone", STATE, () -> undone(with(1, 2, 3, 4, 5, 6, 7), 6), x -> x.undo());
        thrown("with a text and a snapshot", STATE, () -> kept(typed("+1"), 0), x -> x.undo());
    }

    private static TailBlocks undone(TailBlocks x, int times) {
        for (int n = 0; n < times; n++) {
            x.undo();
        }
        return x;
    }

    static void undoLeavesStates() {
        says(16, "Returns how many saved states are left.");
        due("none", 0, ran("+5").undo());
        due("five", 5, with(1, 2, 3, 4, 5, 6).undo());
        due("five of seven", 5, with(1, 2, 3, 4, 5, 6, 7).undo());
        says(16, "int undo() throws IllegalStateException: Restores the latest saved state, and drops it.");
        TailBlocks x = with(1, 2, 3);
        x.undo();
        due("the latest", 2, x.count(0));
        x.create(9);
        due("another in its place", 2, x.undo());
        due("the latest", 2, x.count(0));
        due("then the one before", 1, x.undo());
        due("then the one before", 1, x.count(0));
        due("it saves no state itself", 1, x.count(11));
        type(x, "+1");
        due("the buffer is left alone", 0, x.undo());
        due("the buffer is left alone", 2, x.clearBuffer());
    }

    static void sixStates() {
        says(TERMS, "At most 6 states are saved; the oldest one is dropped first.");
        due("five", 5, with(1, 2, 3, 4, 5).count(11));
        due("six", 6, with(1, 2, 3, 4, 5, 6).count(11));
        due("seven", 6, with(1, 2, 3, 4, 5, 6, 7).count(11));
        due("back to the first of six", 0, undone(with(1, 2, 3, 4, 5, 6), 6).count(0));
        due("not to the first of seven", 1, undone(with(1, 2, 3, 4, 5, 6, 7), 6).count(0));
        TailBlocks x = with(1, 2, 3, 4, 5, 6, 7, 8, 9, 10);
        for (int left = 5; left >= 0; left--) {
            due("left", left, x.undo());
            due("one by one, the latest first", left + 4, x.count(0));
        }
        for (int n = 0; n < 20; n++) {
            x.set(n % 2);
        }
        due("twenty more", 6, x.count(11));
        due("files of the sixth of them", 4, undone(x, 6).count(0));
        due("nothing of the states before is left", 1, x.count(10));
    }

    static void undoableCalls() {
        says(TERMS, "Each method that is marked \"undoable\" and does not throw an exception saves the state"
            + " from before it (also if it changes nothing, or is refused): all, also what is counted so far,"
            + " but the buffer, the slots and the saved states.");
        Maker disk = () -> kept(spoilt("+20;+5;+7", 0, 20), 1);
        undoable("create", 3, disk, x -> x.create(40));
        undoable("grow", 1, disk, x -> x.grow(2, 1));
        undoable("cut", 4, disk, x -> x.cut(1, 1));
        undoable("delete", 0, disk, x -> x.delete(1));
        undoable("spoil", 2, disk, x -> x.spoil(1));
        undoable("heal", 1, disk, x -> x.heal(20));
        undoable("pack, refused", NONE, disk, x -> x.pack());
        undoable("pack", 0, () -> ran("+5"), x -> x.pack());
        undoable("set", 0, disk, x -> x.set(1));
        undoable("goBack", 3, disk, x -> x.goBack(1));
        undoable("create, refused", NONE, Cases::tenFiles, x -> x.create(0));
        undoable("grow, refused", NONE, disk, x -> x.grow(0, 1));
        undoable("cut, refused", NONE, disk, x -> x.cut(0, 1));
        undoable("set, without change", 0, disk, x -> x.set(0));
    }

    static void otherCalls() {
        says(TERMS, "Each method that is marked \"undoable\"");
        TailBlocks x = ran("+5");
        x.append('+');
        due("append saves none", 1, x.count(11));
        x.firstError();
        due("firstError saves none", 1, x.count(11));
        x.clearBuffer();
        due("clearBuffer saves none", 1, x.count(11));
        x.keep(0);
        due("keep saves none", 1, x.count(11));
        x.undo();
        due("undo saves none", 0, x.count(11));
    }
}
