/** Promises 1 to 5: a new object, and files that come, grow, are cut and are deleted. */
final class FilesCases extends Cases {
    private FilesCases() {
    }

    // ---- promise 1

    static void newDisk() {
        says(1, "TailBlocks(): Creates a free disk without files, with empty slots and an empty buffer.");
        dueCounts("at first", new TailBlocks(), 0, 24, 0, 0, 0, 0, 0, 0, 0, 0, 0, 0);
        for (int file = 0; file < 10; file++) {
            due("no file " + file, NONE, sizeOf(new TailBlocks(), file));
        }
        thrown("the empty slot", STATE, TailBlocks::new, (x, slot) -> x.goBack(slot), 0, 1);
        thrown("no saved state", STATE, TailBlocks::new, x -> x.undo());
        thrown("no orders", ARGUMENT, TailBlocks::new, x -> x.run());
        due("the buffer's length", 0, new TailBlocks().clearBuffer());
        due("no error in it", 0, new TailBlocks().firstError());
        TailBlocks other = busy();
        due("it shares nothing with another object", 24, new TailBlocks().count(1));
        due("nor does the other", 5, other.count(0));
        says(TERMS, "0: how a gap is chosen, 0 or 1, at first 0.");
        due("at first", 0, new TailBlocks().count(10));
        says(TERMS, "NONE = -1: There is nothing to return.");
        due("the constant", -1, TailBlocks.NONE);
    }

    // ---- promise 2

    static void createSizes() {
        says(2, "size: 0 to 200");
        due("the least", 0, new TailBlocks().create(0));
        due("the greatest", 0, new TailBlocks().create(200));
        says(2, "Throws IllegalArgumentException if size is out of range");
        thrown("size", ARGUMENT, TailBlocks::new, (x, size) -> x.create(size), -1, 201, MIN, MAX);
        thrown("size", ARGUMENT, Cases::busy, (x, size) -> x.create(size), -1, 201, 216, MIN, MAX);
        thrown("size, with 10 files,", ARGUMENT, Cases::tenFiles, (x, size) -> x.create(size), -1, 201);
    }

    static void createTenFiles() {
        says(2, "Returns its number; NONE if it is refused, as there are 10 files, or not enough blocks.");
        Maker nine = () -> ran("+0;+0;+0;+0;+0;+0;+0;+0;+0");
        due("the tenth", 9, nine.make().create(200));
        refused("the eleventh, without cells", 1, Cases::tenFiles, x -> x.create(0));
        refused("the eleventh, though all blocks are free", 1, Cases::tenFiles, x -> x.create(200));
        TailBlocks x = tenFiles();
        x.delete(4);
        due("once one is gone", 4, x.create(5));
        due("and no other", NONE, x.create(5));
    }

    static void createOnAFullDisk() {
        says(2, "NONE if it is refused, as there are 10 files, or not enough blocks.");
        Maker full = () -> ran("+192;+192");
        due("the last block is taken", 1, ran("+192").create(192));
        refused("a cell more than there is", 1, () -> ran("+192"), x -> x.create(193));
        refused("one cell", 1, full, x -> x.create(1));
        refused("a tail", 1, full, x -> x.create(15));
        refused("a block", 1, full, x -> x.create(16));
        refused("the greatest", 1, full, x -> x.create(200));
        due("no cells need no block", 2, full.make().create(0));
    }

    static void createWithOneBlockLeft() {
        says(2, "or not enough blocks");
        Maker one = () -> ran("+192;+176");
        due("one cell", 2, one.make().create(1));
        due("the longest tail", 2, one.make().create(15));
        due("a whole block", 2, one.make().create(16));
        refused("a tail more", 1, one, x -> x.create(17));
        refused("the longest tail more", 1, one, x -> x.create(31));
        refused("two whole blocks", 1, one, x -> x.create(32));
        due("a tail in the last block leaves a gap", 3, afterTail(one.make()));
    }

    private static int afterTail(TailBlocks x) {
        x.create(1);
        return x.create(15);
    }

    static void createIntoTheLastGap() {
        says(2, "or not enough blocks");
        Maker gap = () -> ran("+200;+176");
        due("a gap of 8 is enough for 8", 2, gap.make().create(8));
        refused("but not for 9", 1, gap, x -> x.create(9));
        refused("nor for 15", 1, gap, x -> x.create(15));
        refused("nor for a whole block", 1, gap, x -> x.create(16));
        Maker both = () -> ran("+200;+160");
        due("a block and the gap", 2, both.make().create(24));
        due("the block for a long tail", 2, both.make().create(15));
        refused("a block, and a gap too short", 1, both, x -> x.create(25));
        refused("two whole blocks", 1, both, x -> x.create(32));
        due("the gap is in the first block", 3, ran("+8;+192;+176").create(8));
        due("the first block is free", 0, ran("+16;+192;+176;-0").create(16));
        refused("the first block alone is free", 1, () -> ran("+16;+192;+176;-0"), x -> x.create(17));
        Maker bad = () -> spoilt("+192;+160", 23);
        due("bad blocks are not free", 2, bad.make().create(16));
        refused("bad blocks are not free", 1, bad, x -> x.create(17));
        Maker gone = () -> spoilt("+200;+176", 12);
        refused("the gap of a bad block is gone", 1, gone, x -> x.create(1));
    }

    static void createSavesAState() {
        says(2, "Undoable, also if it is refused.");
        undoable("a file", 1, () -> ran("+20"), x -> x.create(37));
        undoable("a file without cells", 0, TailBlocks::new, x -> x.create(0));
        undoable("a refused file", NONE, () -> ran("+192;+192"), x -> x.create(1));
        says(2, "int create(int size) throws IllegalArgumentException: A file comes.");
        TailBlocks x = ran("+200;+160;+24");
        dueFile("into the last block and the last gap", x, 2, 24, 1, 8, 12, 8, 0, 1);
        due("no block is free", 0, x.count(1));
    }

    // ---- promise 3

    static void growNoSuchFile() {
        says(3, "file: its number");
        due("the first file", 0, ran("+1").grow(0, 1));
        due("the last file", 0, ran("+0;+0;+0;+0;+0;+0;+0;+0;+0;+1").grow(9, 1));
        says(3, "Throws IndexOutOfBoundsException if there is no such file");
        thrown("file", INDEX, TailBlocks::new, (x, file) -> x.grow(file, 1), 0, 9);
        thrown("file", INDEX, Cases::busy, (x, file) -> x.grow(file, 1), -1, 3, 6, 9, 10, MIN, MAX);
        thrown("file", INDEX, Cases::tenFiles, (x, file) -> x.grow(file, 1), -1, 10);
        thrown("a wrong number too, file", INDEX, Cases::busy, (x, file) -> x.grow(file, 0), -1, 3, 10);
        thrown("a number too large too, file", INDEX, Cases::busy, (x, file) -> x.grow(file, 201), -1, 3, 10);
    }

    static void growCells() {
        says(3, "cells: 1 to 200");
        due("the least", 0, ran("+5").grow(0, 1));
        due("the most", 1, ran("+0").grow(0, 200));
        says(3, "Throws IllegalArgumentException if cells is out of range");
        thrown("cells", ARGUMENT, Cases::busy, (x, cells) -> x.grow(0, cells), -1, 0, 201, MIN, MAX);
        thrown("a file without cells, by", ARGUMENT, Cases::busy, (x, cells) -> x.grow(4, cells), 0, 201);
        thrown("a broken file, by", ARGUMENT, Cases::busy, (x, cells) -> x.grow(2, cells), 0, 201);
        thrown("the greatest file, by", ARGUMENT, () -> ran("+200"), (x, cells) -> x.grow(0, cells), 0, 201, MAX);
    }

    static void growUpToTheNextTail() {
        says(TERMS, "and the cells right behind its tail are in the same block, and taken by no tail,"
            + " as many as are added, the tail grows in place");
        Maker middle = () -> ran("+4;+4;+4;-1");
        undoable("up to the next tail", 0, middle, x -> x.grow(0, 4));
        undoable("one cell into it", 1, middle, x -> x.grow(0, 5));
        TailBlocks x = middle.make();
        x.grow(0, 4);
        dueFile("up to the next tail", x, 0, 8, 0, 8, 0, 0, 0, 1);
        TailBlocks y = middle.make();
        y.grow(0, 5);
        dueFile("one cell into it", y, 0, 9, 0, 9, 1, 0, 0, 2);
        due("right beside another", 1, ran("+4;+4").grow(0, 1));
        due("right before the first file's", 1, ran("+3;+3;-0;+5").grow(1, 1));
        due("beside a broken file's tail", 1, spoilt("+5;+20", 1).grow(0, 1));
        due("cells before it do not count", 1, ran("+8;+4;+4;-0").grow(1, 1));
    }

    static void growUpToTheEndOfTheBlock() {
        says(TERMS, "are in the same block");
        Maker behind = () -> ran("+4;+4;+4;-1");
        undoable("up to the last cell", 0, behind, x -> x.grow(2, 4));
        undoable("a cell over it", 1, behind, x -> x.grow(2, 5));
        TailBlocks x = behind.make();
        x.grow(2, 4);
        dueFile("up to the last cell", x, 2, 8, 0, 8, 0, 8, 0, 1);
        TailBlocks y = behind.make();
        y.grow(2, 5);
        dueFile("over it, back into its own old cells", y, 2, 9, 0, 9, 0, 4, 0, 2);
        due("at the end of its block", 1, ran("+12;+4").grow(1, 1));
    }

    static void growToAWholeBlock() {
        says(TERMS, "If its size / 16 stays");
        due("to 15 cells", 0, ran("+1").grow(0, 14));
        due("to 16 cells", 1, ran("+1").grow(0, 15));
        due("to 31 cells", 0, ran("+30").grow(0, 1));
        due("to 32 cells", 1, ran("+31").grow(0, 1));
        due("to 192 cells", 1, ran("+191").grow(0, 1));
        TailBlocks x = ran("+15;>0:1");
        dueFile("to 16 cells", x, 0, 16, 1, 0, NONE, NONE, 0, 1);
        due("the block that became free is the lowest", 0, x.place(0, 0));
        due("a block more, the tail as long as before", 1, ran("+1").grow(0, 16));
        due("without a tail there is nothing behind it", 1, ran("+16").grow(0, 1));
        due("nor without cells", 1, ran("+0").grow(0, 1));
        due("in place on a disk without a free block", 0, ran("+193;+176").grow(0, 7));
    }

    static void growOtherwise() {
        says(TERMS, "Otherwise its tail is taken away, the whole blocks that are more are taken, one by one,"
            + " and then the new tail, if there is one, is placed.");
        TailBlocks x = ran("+14;>0:3");
        dueFile("its old block is free for the whole one", x, 0, 17, 1, 1, 1, 0, 0, 2);
        due("its old block is free for the whole one", 0, x.place(0, 0));
        TailBlocks y = ran("+4;+4;+4;-0;>1:4");
        dueFile("over its own old cells", y, 1, 8, 0, 8, 0, 0, 0, 2);
        TailBlocks z = ran("+4;+4;+4;-0;>1:5");
        dueFile("one cell too long for them", z, 1, 9, 0, 9, 1, 0, 0, 2);
        TailBlocks none = ran("+5;>0:27");
        dueFile("no new tail", none, 0, 32, 2, 0, NONE, NONE, 0, 1);
        TailBlocks order = ran("+16;+16;+16;-0;-1;>2:47");
        due("one by one: first the lowest", 0, order.place(2, 16));
        due("one by one: then the next", 16, order.place(2, 32));
        due("then the tail", 48, order.place(2, 48));
        TailBlocks all = ran("+0;>0:200");
        dueFile("from nothing to all", all, 0, 200, 12, 8, 12, 0, 0, 1);
    }

    static void growAbove200() {
        says(TERMS, "or if the size would be above 200");
        due("to 200 in place", 0, ran("+199").grow(0, 1));
        due("to 200 otherwise", 1, ran("+192").grow(0, 8));
        due("to 200 at once", 1, ran("+0").grow(0, 200));
        refused("to 201, though there are cells behind", 1, () -> ran("+199"), x -> x.grow(0, 2));
        refused("to 201", 1, () -> ran("+192"), x -> x.grow(0, 9));
        refused("to 201", 1, () -> ran("+1"), x -> x.grow(0, 200));
        refused("above the greatest", 1, () -> ran("+200"), x -> x.grow(0, 1));
        refused("to 400", 1, () -> ran("+200"), x -> x.grow(0, 200));
    }

    /** No block is free; block 12 has a gap of 8, block 23 holds file 2's tail of 15 alone. */
    private static TailBlocks full() {
        return ran("+200;+160;+15");
    }

    /** No block is free; block 23 holds two tails of 7 and a gap of 2. */
    private static TailBlocks fullOfTwoTails() {
        return ran("+192;+176;+7;+7");
    }

    static void growWithoutEnoughBlocks() {
        says(TERMS, "It is refused if there are not enough blocks for that");
        undoable("a new tail as long as the gap", 1, FilesCases::full, x -> x.grow(1, 8));
        refused("a cell longer", 1, FilesCases::full, x -> x.grow(1, 9));
        refused("the longest tail", 1, FilesCases::full, x -> x.grow(1, 15));
        refused("a whole block", 1, FilesCases::full, x -> x.grow(1, 16));
        refused("two whole blocks", 1, FilesCases::full, x -> x.grow(1, 32));
        Maker one = () -> ran("+192;+176");
        due("the last block for a whole one", 1, one.make().grow(1, 16));
        due("the last block for a tail", 1, one.make().grow(1, 15));
        refused("a tail more", 1, one, x -> x.grow(1, 17));
        Maker bad = () -> spoilt("+192;+176", 23);
        refused("a bad block is not free", 1, bad, x -> x.grow(1, 1));
        Maker both = () -> ran("+192;+160;+8");
        due("the last block and a gap", 1, both.make().grow(1, 24));
        refused("the last block and a gap too short", 1, both, x -> x.grow(1, 25));
    }

    static void growWithTheBlockOfTheOldTail() {
        says(TERMS, "(the block that becomes free by its old tail, if it does, counts as free)");
        undoable("it becomes whole", 1, FilesCases::full, x -> x.grow(2, 1));
        undoable("it becomes whole, the tail is as long as the gap", 1, FilesCases::full, x -> x.grow(2, 9));
        refused("a cell longer", 1, FilesCases::full, x -> x.grow(2, 10));
        refused("two whole blocks", 1, FilesCases::full, x -> x.grow(2, 17));
        TailBlocks x = full();
        x.grow(2, 9);
        dueFile("it becomes whole", x, 2, 24, 1, 8, 12, 8, 0, 2);
        due("it becomes whole", 23 * 16, x.place(2, 0));
        refused("it does not, by another tail there", 1, FilesCases::fullOfTwoTails, y -> y.grow(2, 9));
        refused("nor for the new tail", 1, FilesCases::fullOfTwoTails, y -> y.grow(2, 1));
        due("up to the end of the block", 0, fullOfTwoTails().grow(3, 2));
        refused("over the end of the block", 1, FilesCases::fullOfTwoTails, y -> y.grow(3, 3));
    }

    static void growIntoTheCellsOfTheOldTail() {
        says(TERMS, "(the block that becomes free by its old tail, if it does, counts as free)");
        Maker gaps = () -> ran("+192;+176;+4;+4;+4;-2");
        undoable("the gap before it and its own cells", 1, gaps, x -> x.grow(3, 4));
        refused("a cell more than these", 1, gaps, x -> x.grow(3, 5));
        TailBlocks x = gaps.make();
        x.grow(3, 4);
        dueFile("the gap before it and its own cells", x, 3, 8, 0, 8, 23, 0, 0, 2);
    }

    static void growBroken() {
        says(TERMS, "A broken file does not grow");
        Maker whole = () -> spoilt("+5;+20", 1);
        refused("though there are cells behind its tail", 1, whole, x -> x.grow(1, 1));
        refused("by a whole block", 1, whole, x -> x.grow(1, 16));
        refused("by the most", 1, whole, x -> x.grow(1, 200));
        Maker tail = () -> spoilt("+5;+20", 0);
        refused("with its tail lost", 1, tail, x -> x.grow(0, 1));
        refused("with its tail lost, though its whole block is not", 1, tail, x -> x.grow(1, 1));
        says(3, "NONE if it is refused, also as it is broken.");
        due("it is", NONE, whole.make().grow(1, 1));
        due("another file there is not", 1, whole.make().grow(0, 1));
    }

    static void growSavesAState() {
        says(3, "int grow(int file, int cells) throws IndexOutOfBoundsException, IllegalArgumentException:"
            + " A file grows.");
        due("it is greater by so many", 16, ran("+15;>0:1").fileOf(0, 0));
        due("another one is not", 15, ran("+15;+15;>0:1").fileOf(1, 0));
        says(3, "Undoable, also if it is refused.");
        undoable("in place", 0, () -> ran("+5"), x -> x.grow(0, 10));
        undoable("otherwise", 1, () -> ran("+5"), x -> x.grow(0, 11));
        undoable("above 200", NONE, () -> ran("+5"), x -> x.grow(0, 196));
        says(3, "Returns 0 if the tail grows in place, 1 otherwise; NONE if it is refused, also as it is broken.");
        due("1 also if the tail comes back to its place", 1, ran("+5;+20").grow(1, 16));
    }

    // ---- promise 4

    static void cutNoSuchFile() {
        says(4, "file: its number");
        due("the first file", 0, ran("+1").cut(0, 1));
        due("the last file", 0, ran("+0;+0;+0;+0;+0;+0;+0;+0;+0;+1").cut(9, 1));
        says(4, "Throws IndexOutOfBoundsException if there is no such file");
        thrown("file", INDEX, TailBlocks::new, (x, file) -> x.cut(file, 1), 0, 9);
        thrown("file", INDEX, Cases::busy, (x, file) -> x.cut(file, 1), -1, 3, 6, 9, 10, MIN, MAX);
        thrown("a wrong number too, file", INDEX, Cases::busy, (x, file) -> x.cut(file, 0), -1, 3, 10);
        thrown("a number too large too, file", INDEX, Cases::busy, (x, file) -> x.cut(file, 201), -1, 3, 10);
    }

    static void cutCells() {
        says(4, "cells: 1 to 200");
        due("the least", 199, ran("+200").cut(0, 1));
        due("the most", 0, ran("+200").cut(0, 200));
        says(4, "Throws IllegalArgumentException if cells is out of range");
        thrown("cells", ARGUMENT, Cases::busy, (x, cells) -> x.cut(0, cells), -1, 0, 201, MIN, MAX);
        thrown("a broken file, by", ARGUMENT, Cases::busy, (x, cells) -> x.cut(2, cells), 0, 201);
        thrown("a file without cells, by", ARGUMENT, Cases::busy, (x, cells) -> x.cut(4, cells), 0, 201);
    }

    static void cutMoreThanThereIs() {
        says(4, "Returns its size then; NONE if it is refused, as it is broken, or has not so many cells.");
        due("all cells of a tail", 0, ran("+5").cut(0, 5));
        refused("a cell more", 1, () -> ran("+5"), x -> x.cut(0, 6));
        due("all cells of a block", 0, ran("+16").cut(0, 16));
        refused("a cell more", 1, () -> ran("+16"), x -> x.cut(0, 17));
        refused("a file without cells", 1, () -> ran("+0"), x -> x.cut(0, 1));
        refused("the most", 1, () -> ran("+199"), x -> x.cut(0, 200));
        due("all but one", 1, ran("+200").cut(0, 199));
        TailBlocks x = ran("+200;<0:200");
        dueCounts("all of it", x, 1, 24, 0, 0, 0, 0, 0, 0, 0);
    }

    static void cutWithinTheTail() {
        says(TERMS, "if its size / 16 stays, its tail loses its last cells");
        dueFile("all but one cell", ran("+5;<0:4"), 0, 1, 0, 1, 0, 0, 0, 1);
        dueFile("all but one behind whole blocks", ran("+40;<0:7"), 0, 33, 2, 1, 2, 0, 0, 1);
        TailBlocks x = ran("+5;+5;+5;<1:1");
        due("the last one is a gap", 9, x.ifPlaced(1));
        dueFile("it stays where it is, though a gap comes before it", ran("+4;+15;+8;-0;<2:1"), 2, 7, 0, 7, 0, 4, 0, 1);
        says(TERMS, "(if it loses all, it is gone)");
        TailBlocks y = ran("+40;<0:8");
        dueFile("it is gone", y, 0, 32, 2, 0, NONE, NONE, 0, 1);
        due("so is its block", 0, y.blockOf(2, 0));
        due("but not with another tail there", 2, ran("+40;+1;<0:8").blockOf(2, 0));
        dueFile("from 1 to none", ran("+1;<0:1"), 0, 0, 0, 0, NONE, NONE, 0, 1);
    }

    static void cutOfWholeBlocks() {
        says(TERMS, "otherwise its tail is taken away, its last whole blocks that are too many become free,"
            + " and then the new tail, if there is one, is placed");
        dueFile("from 16 to 15", ran("+16;<0:1"), 0, 15, 0, 15, 0, 0, 0, 1);
        dueFile("from 17 to 15", ran("+17;<0:2"), 0, 15, 0, 15, 0, 0, 0, 2);
        dueFile("from 32 to 16", ran("+32;<0:16"), 0, 16, 1, 0, NONE, NONE, 0, 0);
        due("one block is free again", 0, ran("+32;<0:16").blockOf(1, 0));
        dueFile("from 192 to 191 on a full disk", ran("+192;+192;<1:1"), 1, 191, 11, 15, 23, 0, 0, 1);
        dueFile("into a gap just long enough", ran("+5;+32;<1:5"), 1, 27, 1, 11, 0, 5, 0, 1);
        dueFile("into the freed block, the gap is a cell too short", ran("+5;+32;<1:4"), 1, 28, 1, 12, 2, 0, 0, 1);
        TailBlocks x = ran("+16;+32;-0;>1:16;<1:16");
        due("the last one in the order, not on the disk", 0, x.blockOf(0, 0));
        due("the others stay", 32, x.place(1, 16));
        dueFile("its own old tail leaves a gap", ran("+16;+4;+28;-0;<2:16"), 2, 12, 0, 12, 1, 4, 0, 2);
        dueFile("all of it", ran("+200;<0:200"), 0, 0, 0, 0, NONE, NONE, 0, 1);
    }

    static void cutBroken() {
        says(TERMS, "is not cut");
        Maker whole = () -> spoilt("+5;+20", 1);
        refused("a cell of its tail", 1, whole, x -> x.cut(1, 1));
        refused("all of it", 1, whole, x -> x.cut(1, 20));
        refused("more than it has", 1, whole, x -> x.cut(1, 21));
        refused("with its tail lost", 1, () -> spoilt("+5;+20", 0), x -> x.cut(0, 1));
        says(4, "NONE if it is refused, as it is broken");
        due("it is", NONE, whole.make().cut(1, 1));
        due("another file is not", 4, whole.make().cut(0, 1));
    }

    static void cutSavesAState() {
        says(4, "int cut(int file, int cells) throws IndexOutOfBoundsException, IllegalArgumentException:"
            + " A file is cut.");
        due("it is less by so many", 14, ran("+15;<0:1").fileOf(0, 0));
        due("another one is not", 15, ran("+15;+15;<0:1").fileOf(1, 0));
        says(4, "Undoable, also if it is refused.");
        undoable("within the tail", 39, () -> ran("+40"), x -> x.cut(0, 1));
        undoable("the tail", 32, () -> ran("+40"), x -> x.cut(0, 8));
        undoable("a whole block", 31, () -> ran("+40"), x -> x.cut(0, 9));
        undoable("all", 0, () -> ran("+40"), x -> x.cut(0, 40));
        undoable("more than all", NONE, () -> ran("+40"), x -> x.cut(0, 41));
    }

    // ---- promise 5

    static void deleteNoSuchFile() {
        says(5, "file: its number");
        due("the first file", 1, ran("+1").delete(0));
        due("the last file", 1, ran("+0;+0;+0;+0;+0;+0;+0;+0;+0;+1").delete(9));
        says(5, "Throws IndexOutOfBoundsException if there is no such file");
        thrown("file", INDEX, TailBlocks::new, (x, file) -> x.delete(file), 0, 9);
        thrown("file", INDEX, Cases::busy, (x, file) -> x.delete(file), -1, 3, 6, 9, 10, MIN, MAX);
        thrown("file", INDEX, Cases::tenFiles, (x, file) -> x.delete(file), -1, 10);
        thrown("one that is gone, file", INDEX, () -> ran("+5;-0"), (x, file) -> x.delete(file), 0);
    }

    static void deleteFreesBlocks() {
        says(5, "Returns how many blocks become free.");
        due("without cells", 0, ran("+0").delete(0));
        due("a tail alone", 1, ran("+1").delete(0));
        due("one of two tails", 0, ran("+1;+1").delete(0));
        due("the other of two tails", 1, ran("+1;+1;-0").delete(1));
        due("whole blocks", 12, ran("+192").delete(0));
        due("the greatest", 13, ran("+200").delete(0));
        due("the greatest, but another tail is there", 12, ran("+200;+1").delete(0));
        TailBlocks x = ran("+192;+192");
        due("half of a full disk", 12, x.delete(1));
        due("the other half", 12, x.delete(0));
        dueCounts("all is free", x, 0, 24, 0, 0, 0, 0, 0, 0, 0, 0, 0, 3);
    }

    static void deleteBroken() {
        says(TERMS, "it can be deleted: its blocks that are not bad become free,"
            + " and its tail, if its block is not bad, is gone");
        due("one of two whole blocks is bad", 1, spoilt("+40;+5", 1).delete(0));
        due("both are", 0, spoilt("+40;+5", 0, 1).delete(0));
        due("its tail alone is", 1, spoilt("+20", 1).delete(0));
        due("its tail is not", 1, spoilt("+20", 0).delete(0));
        due("all is bad", 0, spoilt("+20", 0, 1).delete(0));
        TailBlocks x = spoilt("+40;+5", 1);
        x.delete(0);
        dueBlock("its tail is gone", x, 2, 2, 1, 5, 8, NONE);
        due("bad blocks stay bad", 3, x.blockOf(1, 0));
        TailBlocks y = spoilt("+5;+20", 0);
        y.delete(0);
        due("another file there stays broken", 1, y.fileOf(1, 5));
        due("its number is taken anew, not broken", 0, y.create(3));
        dueFile("its number is taken anew, not broken", y, 0, 3, 0, 3, 2, 0, 0, 1);
    }

    static void deleteSavesAState() {
        says(5, "int delete(int file) throws IndexOutOfBoundsException: Deletes a file.");
        due("it is gone", NONE, sizeOf(ran("+5;+7;-0"), 0));
        due("the other one stays", 7, sizeOf(ran("+5;+7;-0"), 1));
        says(5, "Undoable.");
        undoable("with blocks", 2, () -> ran("+40;+5"), x -> x.delete(0));
        undoable("without cells", 0, () -> ran("+0"), x -> x.delete(0));
        undoable("broken", 1, () -> spoilt("+20", 1), x -> x.delete(0));
    }
}
