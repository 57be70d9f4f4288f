/** Promises 17 to 20: the looks, which change nothing. */
final class LooksCases extends Cases {
    private LooksCases() {
    }

    // ---- promise 17

    static void fileOfNoSuchFile() {
        says(17, "file: its number");
        unchanged("the first file", 5, () -> ran("+5"), x -> x.fileOf(0, 0));
        unchanged("the last file", 7, () -> ran("+0;+0;+0;+0;+0;+0;+0;+0;+0;+7"), x -> x.fileOf(9, 0));
        says(17, "Throws IndexOutOfBoundsException if there is no such file");
        thrown("file", INDEX, TailBlocks::new, (x, file) -> x.fileOf(file, 0), 0, 9);
        thrown("file", INDEX, Cases::busy, (x, file) -> x.fileOf(file, 0), -1, 3, 6, 9, 10, MIN, MAX);
        thrown("a wrong number too, file", INDEX, Cases::busy, (x, file) -> x.fileOf(file, 7), -1, 3, 10);
        thrown("a number too small too, file", INDEX, Cases::busy, (x, file) -> x.fileOf(file, -1), -1, 3, 10);
    }

    static void fileOfWhat() {
        says(17, "Throws IllegalArgumentException if what is not 0 to 6");
        thrown("what", ARGUMENT, Cases::busy, (x, what) -> x.fileOf(0, what), -1, 7, MIN, MAX);
        thrown("of a file without cells, what", ARGUMENT, Cases::busy, (x, what) -> x.fileOf(4, what), -1, 7);
        says(17, "Returns the property.");
        dueFile("all of them", ran("+5;+40"), 1, 40, 2, 8, 0, 5, 0, 1);
        for (int what = 0; what <= 6; what++) {
            int last = what;
            unchanged("what " + what, new int[] {20, 1, 4, 1, 5, 0, 2}[what], Cases::busy, x -> x.fileOf(0, last));
        }
        says(17, "int fileOf(int file, int what) throws IndexOutOfBoundsException, IllegalArgumentException:"
            + " Returns a property of a file.");
        dueFile("the one that comes first", ran("+5;+40"), 0, 5, 0, 5, 0, 0, 0, 1);
    }

    static void fileOfWithoutATail() {
        says(17, "what: 0: its size; 1: its whole blocks; 2: the cells of its tail; 3: the block of the tail,"
            + " 4: the first cell of it there, NONE for 3 and 4 without a tail; 5: 1 if it is broken, otherwise 0");
        dueFile("no cells", ran("+0"), 0, 0, 0, 0, NONE, NONE, 0, 0);
        dueFile("a block", ran("+16"), 0, 16, 1, 0, NONE, NONE, 0, 0);
        dueFile("the tail is cut off", ran("+40;<0:8"), 0, 32, 2, 0, NONE, NONE, 0, 1);
        dueFile("it grew to a whole block", ran("+40;>0:8"), 0, 48, 3, 0, NONE, NONE, 0, 1);
        dueFile("block 0 and cell 0 are not nothing", ran("+1"), 0, 1, 0, 1, 0, 0, 0, 1);
        dueFile("broken without a tail", spoilt("+16", 0), 0, 16, 1, 0, NONE, NONE, 1, 0);
        dueFile("broken, the tail is lost", spoilt("+20", 1), 0, 20, 1, 4, 1, 0, 1, 1);
    }

    static void fileOfPlacings() {
        says(17, "6: how often its tail was placed so far (when the file came, by growing otherwise than in place,"
            + " by being cut with other whole blocks, and by packing)");
        due("it came without a tail", 0, ran("+16").fileOf(0, 6));
        due("it came with one", 1, ran("+17").fileOf(0, 6));
        due("in place", 1, ran("+5;>0:10").fileOf(0, 6));
        due("otherwise", 2, ran("+5;>0:12").fileOf(0, 6));
        due("otherwise to no tail", 1, ran("+5;>0:11").fileOf(0, 6));
        due("cut within the tail", 1, ran("+20;<0:3").fileOf(0, 6));
        due("the tail is cut off", 1, ran("+20;<0:4").fileOf(0, 6));
        due("cut with other whole blocks", 2, ran("+20;<0:5").fileOf(0, 6));
        due("cut to whole blocks", 1, ran("+36;<0:20").fileOf(0, 6));
        TailBlocks x = ran("+5;+16");
        x.pack();
        x.pack();
        due("packed twice", 3, x.fileOf(0, 6));
        due("packed without a tail", 0, x.fileOf(1, 6));
        TailBlocks refusing = ran("+6;+5;+5;+6;+5;+5");
        refusing.pack();
        due("packing that changes nothing", 1, refusing.fileOf(0, 6));
        due("growing that is refused", 1, refusedTo(ran("+5"), 196).fileOf(0, 6));
        x.undo();
        due("undone", 2, x.fileOf(0, 6));
        x.delete(0);
        x.create(3);
        due("a new file with the same number", 1, x.fileOf(0, 6));
    }

    private static TailBlocks refusedTo(TailBlocks x, int cells) {
        x.grow(0, cells);
        return x;
    }

    // ---- promise 18

    static void placeCells() {
        says(18, "cell: 0 to its size less 1");
        unchanged("the first cell", 0, () -> ran("+5"), x -> x.place(0, 0));
        unchanged("the last cell", 4, () -> ran("+5"), x -> x.place(0, 4));
        unchanged("the last cell of the greatest file", 12 * 16 + 7, () -> ran("+200"), x -> x.place(0, 199));
        says(18, "Throws IndexOutOfBoundsException if there is no such file or cell");
        thrown("of 5, cell", INDEX, () -> ran("+5"), (x, cell) -> x.place(0, cell), -1, 5, 15, 16, MIN, MAX);
        thrown("of 16, cell", INDEX, () -> ran("+16"), (x, cell) -> x.place(0, cell), -1, 16, 31);
        thrown("of 200, cell", INDEX, () -> ran("+200"), (x, cell) -> x.place(0, cell), -1, 200, MIN, MAX);
        thrown("of none, cell", INDEX, () -> ran("+0"), (x, cell) -> x.place(0, cell), -1, 0, 1);
        thrown("of a cut file, cell", INDEX, () -> ran("+40;<0:10"), (x, cell) -> x.place(0, cell), 30, 39);
        thrown("of a broken file, cell", INDEX, Cases::busy, (x, cell) -> x.place(2, cell), -1, 40);
    }

    static void placeNoSuchFile() {
        says(18, "file: its number");
        due("the last file", 6, ran("+0;+0;+0;+0;+0;+0;+0;+0;+0;+7").place(9, 6));
        says(18, "Throws IndexOutOfBoundsException if there is no such file or cell");
        thrown("file", INDEX, TailBlocks::new, (x, file) -> x.place(file, 0), 0, 9);
        thrown("file", INDEX, Cases::busy, (x, file) -> x.place(file, 0), -1, 3, 6, 9, 10, MIN, MAX);
        thrown("no cell either, file", INDEX, Cases::busy, (x, file) -> x.place(file, -1), -1, 3, 10);
    }

    static void placeAtTheEdgesOfBlocks() {
        says(18, "Returns 16 times the block, and the cell there; NONE if the block is bad.");
        TailBlocks x = ran("+16;+16;+40;-0;>2:16");
        due("the first cell of its first block", 32, x.place(2, 0));
        due("the last cell of it", 47, x.place(2, 15));
        due("the first cell of the next", 48, x.place(2, 16));
        due("the last whole block lies first", 0, x.place(2, 32));
        due("its last cell", 15, x.place(2, 47));
        due("the tail", 64, x.place(2, 48));
        due("its last cell", 71, x.place(2, 55));
        due("a tail that begins in its block", 5, ran("+5;+3").place(1, 0));
        due("the last cell of the disk", 383, ran("+192;+192").place(1, 191));
    }

    static void placeInBadBlocks() {
        says(18, "NONE if the block is bad");
        Maker whole = () -> spoilt("+40", 1);
        unchanged("the cell before it", 15, whole, x -> x.place(0, 15));
        unchanged("the first cell in it", NONE, whole, x -> x.place(0, 16));
        unchanged("the last cell in it", NONE, whole, x -> x.place(0, 31));
        unchanged("the cell behind it", 32, whole, x -> x.place(0, 32));
        Maker tail = () -> spoilt("+40", 2);
        unchanged("the last cell of the whole blocks", 31, tail, x -> x.place(0, 31));
        unchanged("the first cell of the tail", NONE, tail, x -> x.place(0, 32));
        unchanged("the last cell of the tail", NONE, tail, x -> x.place(0, 39));
        says(18, "int place(int file, int cell) throws IndexOutOfBoundsException: Tells where a cell of a file is.");
        due("the first block, bad", NONE, spoilt("+40", 0).place(0, 0));
    }

    // ---- promise 19

    static void blockOfBlocks() {
        says(19, "block: 0 to 23");
        unchanged("the first block", 0, TailBlocks::new, x -> x.blockOf(0, 0));
        unchanged("the last block", 0, TailBlocks::new, x -> x.blockOf(23, 0));
        says(19, "Throws IndexOutOfBoundsException if there is no such block");
        thrown("block", INDEX, TailBlocks::new, (x, block) -> x.blockOf(block, 0), -1, 24, MIN, MAX);
        thrown("block", INDEX, Cases::busy, (x, block) -> x.blockOf(block, 4), -1, 24, MIN, MAX);
        thrown("a wrong number too, block", INDEX, Cases::busy, (x, block) -> x.blockOf(block, 5), -1, 24);
        thrown("a number too small too, block", INDEX, Cases::busy, (x, block) -> x.blockOf(block, -1), -1, 24);
        says(19, "Throws IllegalArgumentException if what is not 0 to 4");
        thrown("what", ARGUMENT, Cases::busy, (x, what) -> x.blockOf(0, what), -1, 5, MIN, MAX);
        thrown("of a bad block, what", ARGUMENT, Cases::busy, (x, what) -> x.blockOf(2, what), -1, 5);
        thrown("of the last block, what", ARGUMENT, TailBlocks::new, (x, what) -> x.blockOf(23, what), -1, 5);
    }

    static void blockOfProperties() {
        says(19, "what: 0: 0 free, 1 whole, 2 shared, 3 bad; 1: tails in it, 0 if it is bad; 2: cells of these;"
            + " 3: the cells of its longest gap, if it is shared, otherwise 0;"
            + " 4: the file to which it belongs, if it is whole, otherwise NONE");
        dueBlock("free", new TailBlocks(), 0, 0, 0, 0, 0, NONE);
        dueBlock("whole", ran("+0;+16"), 0, 1, 0, 0, 0, 1);
        dueBlock("whole, the first file's", ran("+16"), 0, 1, 0, 0, 0, 0);
        dueBlock("whole, the last file's", ran("+0;+0;+0;+0;+0;+0;+0;+0;+0;+16"), 0, 1, 0, 0, 0, 9);
        dueBlock("shared by one cell", ran("+1"), 0, 2, 1, 1, 15, NONE);
        dueBlock("shared but for one cell", ran("+15"), 0, 2, 1, 15, 1, NONE);
        dueBlock("shared and full", ran("+15;+1"), 0, 2, 2, 16, 0, NONE);
        dueBlock("shared by ten", ran("+1;+1;+1;+1;+1;+1;+1;+1;+1;+1"), 0, 2, 10, 10, 6, NONE);
        dueBlock("two gaps, the first is longer", ran("+5;+8;-0"), 0, 2, 1, 8, 5, NONE);
        dueBlock("two gaps, the second is longer", ran("+3;+8;-0"), 0, 2, 1, 8, 5, NONE);
        dueBlock("bad, with tails", spoilt("+5;+3", 0), 0, 3, 0, 0, 0, NONE);
        dueBlock("bad, a whole block before", spoilt("+16", 0), 0, 3, 0, 0, 0, NONE);
        dueBlock("bad, free before", spoilt("+16", 23), 23, 3, 0, 0, 0, NONE);
        dueBlock("whole, of a broken file", spoilt("+20", 1), 0, 1, 0, 0, 0, 0);
        dueBlock("shared, of a broken file", spoilt("+20", 0), 1, 2, 1, 4, 12, NONE);
        says(19, "Returns the property.");
        for (int what = 0; what <= 4; what++) {
            int last = what;
            unchanged("what " + what, new int[] {2, 3, 10, 3, NONE}[what], Cases::busy, x -> x.blockOf(1, last));
        }
        says(19, "int blockOf(int block, int what) throws IndexOutOfBoundsException, IllegalArgumentException:"
            + " Returns a property of a block.");
        dueBlock("the one asked for", ran("+17"), 0, 1, 0, 0, 0, 0);
    }

    // ---- promise 20

    static void countWhat() {
        says(20, "Throws IllegalArgumentException if what is not 0 to 11");
        thrown("what", ARGUMENT, TailBlocks::new, (x, what) -> x.count(what), -1, 12, MIN, MAX);
        thrown("what", ARGUMENT, Cases::busy, (x, what) -> x.count(what), -1, 12, MIN, MAX);
        says(20, "Returns the number.");
        int[] busy = {5, 18, 3, 2, 1, 66, 14, 1, 1, 1, 1, 6};
        for (int what = 0; what <= 11; what++) {
            int last = what;
            unchanged("what " + what, busy[what], Cases::busy, x -> x.count(last));
        }
    }

    static void countNothingOrAll() {
        says(20, "0: files; 1: free blocks; 2: whole blocks; 3: shared blocks; 4: bad blocks;"
            + " 5: cells of all files in blocks that are not bad; 6: cells of gaps in shared blocks; 7: broken files");
        dueCounts("at first", new TailBlocks(), 0, 24, 0, 0, 0, 0, 0, 0);
        dueCounts("a full disk", ran("+192;+192"), 2, 0, 24, 0, 0, 384, 0, 0);
        dueCounts("files without cells", tenFiles(), 10, 24, 0, 0, 0, 0, 0, 0);
        dueCounts("a gap of 15", ran("+1"), 1, 23, 0, 1, 0, 1, 15, 0);
        dueCounts("a shared block without a gap", ran("+15;+1"), 2, 23, 0, 1, 0, 16, 0, 0);
        dueCounts("all cells lost", spoilt("+20", 0, 1), 1, 22, 0, 0, 2, 0, 0, 1);
        dueCounts("a tail lost", spoilt("+20", 1), 1, 22, 1, 0, 1, 16, 0, 1);
        dueCounts("a whole block lost", spoilt("+20", 0), 1, 22, 0, 1, 1, 4, 12, 1);
        dueCounts("ten broken files", spoilt("+1;+1;+1;+1;+1;+1;+1;+1;+1;+1", 0), 10, 23, 0, 0, 1, 0, 0, 10);
        says(20, "int count(int what) throws IllegalArgumentException: Returns a number.");
        due("a broken file that is deleted", 0, withoutFile(spoilt("+20", 0)).count(7));
    }

    private static TailBlocks withoutFile(TailBlocks x) {
        x.delete(0);
        return x;
    }

    static void countRefusedAndPacked() {
        says(20, "8: what was refused so far, by create(), grow() and cut()");
        TailBlocks x = tenFiles();
        x.create(0);
        due("by create", 1, x.count(8));
        x.grow(0, 200);
        x.grow(0, 1);
        due("by grow", 2, x.count(8));
        x.cut(1, 1);
        due("by cut", 3, x.count(8));
        x.undo();
        due("undone", 2, x.count(8));
        TailBlocks y = ran("+6;+5;+5;+6;+5;+5");
        y.pack();
        due("not by pack", 0, y.count(8));
        says(20, "9: packings so far that were not without change (that did not return NONE)");
        due("one that found no block", 0, y.count(9));
        y.delete(5);
        y.pack();
        y.pack();
        due("two that did", 2, y.count(9));
        y.undo();
        due("undone", 1, y.count(9));
        y.ifPacked();
        due("not what would be packed", 1, y.count(9));
        says(20, "10: the setting; 11: saved states");
        due("at first", 0, new TailBlocks().count(10));
        due("saved states at most", 6, with(1, 2, 3, 4, 5, 6, 7, 8).count(11));
    }

    static void countUpToTheLastCall() {
        says(20, "8: what was refused so far, by create(), grow() and cut()");
        TailBlocks x = with(0, 0, 0, 0, 0, 0, 0, 0, 0, 0);
        for (int call = 11; call <= 510; call++) {
            x.create(0);
        }
        due("the 511th call", 500, x.count(8));
        due("the 512th call", 5, x.undo());
    }
}
