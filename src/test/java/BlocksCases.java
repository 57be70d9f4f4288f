/** Promises 6 to 9: blocks that turn bad and are exchanged, packing, and the setting. */
final class BlocksCases extends Cases {
    private BlocksCases() {
    }

    // ---- promise 6

    static void spoilBlocks() {
        says(6, "block: 0 to 23");
        due("the first block", 0, new TailBlocks().spoil(0));
        due("the last block", 0, new TailBlocks().spoil(23));
        says(6, "Throws IndexOutOfBoundsException if there is no such block");
        thrown("block", INDEX, TailBlocks::new, (x, block) -> x.spoil(block), -1, 24, MIN, MAX);
        thrown("block", INDEX, Cases::busy, (x, block) -> x.spoil(block), -1, 24, MIN, MAX);
        thrown("block, all are bad,", INDEX, BlocksCases::allBad, (x, block) -> x.spoil(block), -1, 24);
    }

    private static TailBlocks allBad() {
        TailBlocks x = ran("+0");
        for (int block = 0; block < 24; block++) {
            x.spoil(block);
        }
        return x;
    }

    static void spoilBadBlocks() {
        says(6, "Throws IllegalStateException if it is bad");
        thrown("a bad block,", STATE, Cases::busy, (x, block) -> x.spoil(block), 2);
        thrown("one that held nothing,", STATE, () -> spoilt("+20", 23), (x, block) -> x.spoil(block), 23);
        thrown("one that held a tail,", STATE, () -> spoilt("+20", 1), (x, block) -> x.spoil(block), 1);
        thrown("of all bad blocks,", STATE, BlocksCases::allBad, (x, block) -> x.spoil(block), 0, 23);
        TailBlocks x = spoilt("+0", 5);
        x.heal(5);
        due("again, once it was exchanged", 0, x.spoil(5));
    }

    static void spoilAll() {
        says(6, "int spoil(int block) throws IndexOutOfBoundsException, IllegalStateException: A block turns bad.");
        TailBlocks x = allBad();
        dueCounts("all are bad", x, 1, 0, 0, 0, 24, 0, 0, 0);
        due("no cell finds a place", NONE, x.create(1));
        due("a file without cells needs none", 1, x.create(0));
        TailBlocks full = ran("+192;+192");
        due("the first block of a full disk", 1, full.spoil(0));
        due("the last block of a full disk", 1, full.spoil(23));
        dueCounts("the rest stays", full, 2, 0, 22, 0, 2, 352, 0, 2);
    }

    static void spoilBreaksFiles() {
        says(6, "Returns how many files become broken by it that were not.");
        due("none in a free block", 0, ran("+20").spoil(2));
        due("a whole block's", 1, ran("+20").spoil(0));
        due("a tail's", 1, ran("+20").spoil(1));
        due("ten tails", 10, ran("+1;+1;+1;+1;+1;+1;+1;+1;+1;+1").spoil(0));
        due("none that was broken before", 0, spoilt("+20", 0).spoil(1));
        due("one of two tails that was not", 1, spoilt("+20;+5", 0).spoil(1));
        due("another whole block of a broken file", 0, spoilt("+40", 1).spoil(0));
        due("a block that was cut off", 0, ran("+32;<0:16").spoil(1));
        due("a block that a second file was cut off", 0, ran("+0;+32;<1:16").spoil(1));
        due("a block that a tail left", 0, ran("+5;<0:5").spoil(0));
        due("a block of a deleted file, whose number is taken anew", 0, ran("+0;+16;-1;+0").spoil(0));
    }

    static void spoilLeavesOtherBlocks() {
        says(TERMS, "A block that turns bad is lost with all that it holds: each file with a whole block or a tail"
            + " there is broken, and nothing changes in what other blocks hold.");
        TailBlocks x = spoilt("+20;+5", 0);
        dueBlock("the lost one", x, 0, 3, 0, 0, 0, NONE);
        dueBlock("the other one", x, 1, 2, 2, 9, 7, NONE);
        due("a tail in it", 16, x.place(0, 16));
        due("the lost cells", NONE, x.place(0, 0));
        dueFile("broken", x, 0, 20, 1, 4, 1, 0, 1, 1);
        dueFile("not broken", x, 1, 5, 0, 5, 1, 4, 0, 1);
        TailBlocks y = spoilt("+20;+5", 1);
        dueBlock("a whole block of a broken file", y, 0, 1, 0, 0, 0, 0);
        dueFile("its tail is lost", y, 0, 20, 1, 4, 1, 0, 1, 1);
    }

    static void spoilSavesAState() {
        says(6, "Undoable.");
        undoable("a free block", 0, () -> ran("+20;+5"), x -> x.spoil(23));
        undoable("a whole block", 1, () -> ran("+20;+5"), x -> x.spoil(0));
        undoable("a shared block", 2, () -> ran("+20;+5"), x -> x.spoil(1));
    }

    // ---- promise 7

    static void healBlocks() {
        says(7, "block: 0 to 23");
        due("the first block", 0, spoilt("+0", 0).heal(0));
        due("the last block", 0, spoilt("+0", 23).heal(23));
        says(7, "Throws IndexOutOfBoundsException if there is no such block");
        thrown("block", INDEX, TailBlocks::new, (x, block) -> x.heal(block), -1, 24, MIN, MAX);
        thrown("block", INDEX, BlocksCases::allBad, (x, block) -> x.heal(block), -1, 24, MIN, MAX);
    }

    static void healOthers() {
        says(7, "Throws IllegalStateException if it is not bad, or a broken file still has something there");
        thrown("a free block,", STATE, TailBlocks::new, (x, block) -> x.heal(block), 0, 23);
        thrown("whole, shared and free, block", STATE, () -> ran("+20"), (x, block) -> x.heal(block), 0, 1, 2);
        thrown("of a busy disk,", STATE, Cases::busy, (x, block) -> x.heal(block), 0, 1, 2, 3, 4, 23);
        thrown("one exchanged before", STATE, () -> healed(spoilt("+0", 3), 3), x -> x.heal(3));
        thrown("a whole block not bad, of a broken file,", STATE, () -> spoilt("+20", 1), x -> x.heal(0));
    }

    private static TailBlocks healed(TailBlocks x, int block) {
        x.heal(block);
        return x;
    }

    private static TailBlocks without(TailBlocks x, int file) {
        x.delete(file);
        return x;
    }

    static void healWithSomethingThere() {
        says(7, "or a broken file still has something there");
        thrown("its first whole block", STATE, () -> spoilt("+40", 0), x -> x.heal(0));
        thrown("its last whole block", STATE, () -> spoilt("+40", 1), x -> x.heal(1));
        thrown("its tail", STATE, () -> spoilt("+40", 2), x -> x.heal(2));
        thrown("one of two tails", STATE, () -> without(spoilt("+5;+5", 0), 0), x -> x.heal(0));
        thrown("the other one", STATE, () -> without(spoilt("+5;+5", 0), 1), x -> x.heal(0));
        due("none of two tails", 0, without(without(spoilt("+5;+5", 0), 0), 1).heal(0));
        due("a whole block, once it is deleted", 0, without(spoilt("+40", 1), 0).heal(1));
        due("one beside its blocks", 1, spoilt("+40", 1, 3).heal(3));
    }

    static void healLeavesBadBlocks() {
        says(7, "Returns how many bad blocks are left.");
        TailBlocks x = allBad();
        for (int block = 0; block < 24; block++) {
            due("left after block " + block, 23 - block, x.heal(block));
        }
        says(7, "A bad block is exchanged: it is free then (files stay broken).");
        dueCounts("all are free", x, 1, 24, 0, 0, 0, 0, 0, 0);
        TailBlocks y = spoilt("+20", 0, 5);
        y.heal(5);
        dueBlock("it is free", y, 5, 0, 0, 0, 0, NONE);
        due("the file stays broken", 1, y.fileOf(0, 5));
        TailBlocks z = without(spoilt("+20;+5", 1), 0);
        z.spoil(0);
        z.heal(0);
        due("so does one whose block is another one", 1, z.fileOf(1, 5));
        due("it is taken again, the lowest", 1, z.create(16) == 0 && z.place(0, 0) == 0 ? 1 : 0);
        says(7, "Undoable.");
        undoable("an exchange", 1, () -> spoilt("+0", 0, 23), w -> w.heal(23));
    }

    // ---- promise 8

    static void packJustFitting() {
        says(TERMS, "in which the cells behind the tails placed there are enough, right behind these");
        undoable("8 and 8 in one block", 1, () -> ran("+9;+9;<0:1;<1:1"), x -> x.pack());
        undoable("9 and 8 are a cell too many", 0, () -> ran("+9;+9;<1:1"), x -> x.pack());
        TailBlocks x = ran("+9;+9;<0:1;<1:1");
        x.pack();
        dueFile("the lowest file", x, 0, 8, 0, 8, 0, 0, 0, 2);
        dueFile("right behind it", x, 1, 8, 0, 8, 0, 8, 0, 2);
        TailBlocks y = ran("+9;+9;<1:1");
        y.pack();
        dueFile("in a block of its own", y, 1, 8, 0, 8, 1, 0, 0, 2);
        TailBlocks z = ran("+3;+10;+3;-0");
        z.pack();
        dueFile("first cells of the first block", z, 1, 10, 0, 10, 0, 0, 0, 2);
        dueFile("right behind", z, 2, 3, 0, 3, 0, 10, 0, 2);
    }

    static void packInOrder() {
        says(TERMS, "by descending lengths, of several the lowest file first");
        TailBlocks x = ran("+3;+5;+5;-0;+5");
        due("three of 5 in one block", 1, x.pack());
        dueFile("the lowest file, though it lay last", x, 0, 5, 0, 5, 0, 0, 0, 2);
        dueFile("the next", x, 1, 5, 0, 5, 0, 5, 0, 2);
        dueFile("the last", x, 2, 5, 0, 5, 0, 10, 0, 2);
        TailBlocks up = ran("+3;+4;+5");
        up.pack();
        dueFile("the longest of three", up, 2, 5, 0, 5, 0, 0, 0, 2);
        dueFile("the next of three", up, 1, 4, 0, 4, 0, 5, 0, 2);
        dueFile("the shortest of three", up, 0, 3, 0, 3, 0, 9, 0, 2);
        TailBlocks y = ran("+4;+5;+4");
        y.pack();
        dueFile("a cell longer comes first", y, 1, 5, 0, 5, 0, 0, 0, 2);
        dueFile("then the lowest", y, 0, 4, 0, 4, 0, 5, 0, 2);
    }

    static void packFindsNoBlock() {
        says(TERMS, "If one finds no such block, nothing is changed at all.");
        // By descending lengths 6 and 6 come together, and no 5 fits behind them, though all lie in two blocks now.
        refused("the last tail finds none, though blocks are free", 0, () -> ran("+6;+5;+5;+6;+5;+5"), x -> x.pack());
        refused("all blocks hold a broken file's tail", 0, () -> spoilt("+20;+12", 0), x -> x.pack());
        refused("the only other block is too full", 0, () -> spoilt("+20;+12;+15", 0), x -> x.pack());
        says(8, "Returns how many blocks become free; NONE if nothing is changed, as a tail found no block.");
        TailBlocks x = ran("+6;+5;+5;+6;+5;+5");
        x.pack();
        due("it is not counted", 0, x.count(9));
        dueFile("no tail was placed", x, 0, 6, 0, 6, 0, 0, 0, 1);
        due("with one tail less", 0, without(ran("+6;+5;+5;+6;+5;+5"), 5).pack());
    }

    static void packNothing() {
        says(8, "Returns how many blocks become free; NONE if nothing is changed, as a tail found no block.");
        undoable("no file", 0, TailBlocks::new, x -> x.pack());
        undoable("no tail", 0, () -> ran("+0;+16"), x -> x.pack());
        undoable("a broken file's tail alone", 0, () -> spoilt("+20", 0), x -> x.pack());
        undoable("a lost tail alone", 0, () -> spoilt("+5", 0), x -> x.pack());
        TailBlocks x = new TailBlocks();
        x.pack();
        due("it is counted", 1, x.count(9));
        TailBlocks full = ran("+200;+176");
        due("on a full disk", 0, full.pack());
        due("up to nine blocks", 9, tenFarApart().pack());
    }

    /** Ten tails of one cell, each in a block of its own. */
    private static TailBlocks tenFarApart() {
        TailBlocks x = with(15, 15, 15, 15, 15, 15, 15, 15, 15, 15);
        for (int file = 0; file < 10; file++) {
            x.cut(file, 14);
        }
        return x;
    }

    static void packBesideBrokenTails() {
        says(TERMS, "of those that are shared now and hold no tail of a broken file");
        TailBlocks x = spoilt("+20;+12;<1:1;+15;<2:3", 0);
        due("the other block has no room for both", NONE, x.pack());
        TailBlocks y = spoilt("+5;+21;+8;+3", 1);
        due("two leave a broken file's tail", 0, y.pack());
        dueFile("it stays", y, 1, 21, 1, 5, 0, 5, 1, 1);
        dueFile("away from it", y, 0, 5, 0, 5, 2, 8, 0, 2);
        says(TERMS, "its tail does not take part in packing");
        due("it is not placed again", 1, y.fileOf(1, 6));
        dueBlock("its block stays shared", y, 0, 2, 1, 5, 6, NONE);
        says(TERMS, "To pack: the tails of all files that are not broken are taken");
        due("a lost tail is not taken", 1, packed(spoilt("+5", 0)).fileOf(0, 6));
        due("all others are, also where they stay", 2, packed(ran("+5")).fileOf(0, 6));
        says(TERMS, "Blocks left without a tail become free.");
        due("the last block", 0, packed(tenFarApart()).blockOf(9, 0));
        due("not the first one", 2, packed(tenFarApart()).blockOf(0, 0));
        due("whole blocks stay whole", 1, packed(ran("+16")).blockOf(0, 0));
        due("bad blocks stay bad", 3, packed(spoilt("+5", 0)).blockOf(0, 0));
    }

    private static TailBlocks packed(TailBlocks x) {
        x.pack();
        return x;
    }

    static void packSavesAState() {
        says(8, "int pack(): Packs.");
        due("one block is left", 1, packed(tenFarApart()).count(3));
        says(8, "Undoable.");
        undoable("with nothing freed", 0, () -> ran("+5;+20"), x -> x.pack());
        undoable("with two freed", 2, () -> ran("+15;+15;+15;<0:10;<1:10;<2:10"), x -> x.pack());
    }

    // ---- promise 9

    static void setValues() {
        says(9, "value: 0 or 1");
        undoable("0", 0, TailBlocks::new, x -> x.set(0));
        undoable("1", 0, TailBlocks::new, x -> x.set(1));
        says(9, "Throws IllegalArgumentException if value is out of range");
        thrown("value", ARGUMENT, TailBlocks::new, (x, value) -> x.set(value), -1, 2, MIN, MAX);
        thrown("value", ARGUMENT, Cases::busy, (x, value) -> x.set(value), -1, 2, MIN, MAX);
        says(9, "Returns the previous value.");
        TailBlocks x = new TailBlocks();
        due("at first", 0, x.set(0));
        due("the same again", 0, x.set(1));
        due("then the other", 1, x.set(1));
        due("the same again", 1, x.set(0));
        due("told by count", 0, x.count(10));
        says(9, "Undoable.");
        due("also without a change, four times", 4, x.count(11));
        says(9, "int set(int value) throws IllegalArgumentException: Changes the setting.");
        TailBlocks y = ran("+5;+2;+6;-0");
        due("the first gap", 0, y.ifPlaced(3));
        y.set(1);
        due("the shortest gap", 13, y.ifPlaced(3));
        y.set(0);
        due("the first gap again", 0, y.ifPlaced(3));
    }
}
