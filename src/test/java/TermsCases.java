/** "Terms": blocks and files, and where whole blocks and tails are placed. */
final class TermsCases extends Cases {
    private TermsCases() {
    }

    static void divisionsAreRoundedDown() {
        says(TERMS, "divisions are rounded down");
        int[][] wholes = {{0, 0}, {1, 0}, {15, 0}, {16, 1}, {17, 1}, {31, 1}, {32, 2}, {191, 11}, {192, 12}, {200, 12}};
        for (int[] one : wholes) {
            due("whole blocks of " + one[0] + " cells", one[1], with(one[0]).fileOf(0, 1));
        }
        says(TERMS, "All numbers are integers, but for a share");
        dueShare("one cell of a block", 0.0625, with(1));
    }

    static void firstAndLastBlock() {
        says(TERMS, "The disk has 24 blocks, numbered from 0");
        due("blocks of a new disk", 24, new TailBlocks().count(1));
        due("the first block", 0, new TailBlocks().blockOf(0, 0));
        due("the last block", 0, new TailBlocks().blockOf(23, 0));
        thrown("block", INDEX, TailBlocks::new, (x, block) -> x.blockOf(block, 0), -1, 24, MIN, MAX);
        due("two files of 12 blocks find room", 1, ran("+192").create(192));
        refused("a 25th block", 1, () -> ran("+192;+192"), x -> x.create(16));
    }

    static void firstAndLastCell() {
        says(TERMS, "each of 16 cells, numbered from 0");
        TailBlocks x = ran("+192;+192");
        due("the first cell of the disk", 0, x.place(0, 0));
        due("the last cell of a block", 15, x.place(0, 15));
        due("the first cell of the next one", 16, x.place(0, 16));
        due("the last cell of the disk", 23 * 16 + 15, x.place(1, 191));
        due("a tail up to the last cell of its block", 15, ran("+1;+15").place(1, 14));
        due("a tail that would go over it", 16, ran("+2;+15").place(1, 0));
    }

    static void kindsOfBlocks() {
        says(TERMS, "A block is free (0), as at first, whole (1): all of it belongs to one file;"
            + " shared (2): it holds at least one tail; or bad (3).");
        for (int block = 0; block < 24; block++) {
            due("block " + block + " at first", 0, new TailBlocks().blockOf(block, 0));
        }
        TailBlocks x = spoilt("+17", 23);
        dueBlock("all of it one file's", x, 0, 1, 0, 0, 0, 0);
        dueBlock("a tail of one cell", x, 1, 2, 1, 1, 15, NONE);
        dueBlock("a block behind these", x, 2, 0, 0, 0, 0, NONE);
        dueBlock("the bad one", x, 23, 3, 0, 0, 0, NONE);
    }

    static void tenFilesAtOnce() {
        says(TERMS, "There are at most 10 files at once, numbered 0 to 9");
        TailBlocks x = new TailBlocks();
        for (int file = 0; file < 10; file++) {
            due("number", file, x.create(0));
        }
        due("an eleventh", NONE, x.create(0));
        due("files", 10, x.count(0));
        due("the last one is there", 0, x.fileOf(9, 0));
    }

    static void lowestNumber() {
        says(TERMS, "a file that comes gets the lowest number that no file has");
        TailBlocks x = ran("+1;+1;+1;+1;-2;-1");
        due("the lowest of two", 1, x.create(0));
        due("the other one", 2, x.create(0));
        due("then the next", 4, x.create(0));
        x.delete(0);
        due("the first one", 0, x.create(0));
        TailBlocks y = tenFiles();
        y.delete(9);
        due("the last one", 9, y.create(0));
    }

    static void sizesAtTheEdges() {
        says(TERMS, "A file has a size, 0 to 200 cells: size / 16 whole blocks, in an order,"
            + " and a tail of size modulo 16 cells");
        dueFile("no cells", with(0), 0, 0, 0, 0, NONE, NONE, 0, 0);
        dueFile("one cell", with(1), 0, 1, 0, 1, 0, 0, 0, 1);
        dueFile("a cell less than a block", with(15), 0, 15, 0, 15, 0, 0, 0, 1);
        dueFile("a block", with(16), 0, 16, 1, 0, NONE, NONE, 0, 0);
        dueFile("a cell more than a block", with(17), 0, 17, 1, 1, 1, 0, 0, 1);
        dueFile("a cell less than 12 blocks", with(191), 0, 191, 11, 15, 11, 0, 0, 1);
        dueFile("12 blocks", with(192), 0, 192, 12, 0, NONE, NONE, 0, 0);
        dueFile("the greatest size", with(200), 0, 200, 12, 8, 12, 0, 0, 1);
        TailBlocks x = ran("+16;+32;-0;>1:16");
        due("a later whole block may lie before the others", 0, x.place(1, 32));
        due("the first one is behind it", 16, x.place(1, 0));
    }

    static void tailsLieInOneBlock() {
        says(TERMS, "which lie one beside the other in one shared block");
        TailBlocks x = ran("+1;+15;-0;+2");
        due("not over two gaps", 16, x.place(0, 0));
        due("one beside the other", 17, x.place(0, 1));
        says(TERMS, "with 0 there is no tail");
        dueFile("whole blocks alone", with(32), 0, 32, 2, 0, NONE, NONE, 0, 0);
        due("no block is shared for it", 0, with(32).count(3));
        due("nor for a file without cells", 0, with(0).count(3));
    }

    static void brokenByAnyBlock() {
        says(TERMS, "A file is broken if a block of it turned bad.");
        due("by its first whole block", 1, spoilt("+40;+5", 0).fileOf(0, 5));
        due("by its last whole block", 1, spoilt("+40;+5", 1).fileOf(0, 5));
        due("by the block of its tail", 1, spoilt("+40;+5", 2).fileOf(0, 5));
        due("by the only block", 1, spoilt("+40;+5", 2).fileOf(1, 5));
        due("not by another file's block", 0, spoilt("+40;+5", 0, 1).fileOf(1, 5));
        due("not by a free block", 0, spoilt("+40;+5", 3, 23).fileOf(0, 5));
        due("never without cells", 0, spoilt("+0", 0, 1).fileOf(0, 5));
    }

    static void wholeBlocksAreTheLowest() {
        says(TERMS, "A whole block is the lowest free block.");
        TailBlocks x = ran("+16;+16;+16;-1");
        x.create(32);
        due("one between others", 16, x.place(1, 0));
        due("then one behind them", 48, x.place(1, 16));
        TailBlocks y = spoilt("+0", 0);
        y.create(16);
        due("not a bad one", 16, y.place(1, 0));
        TailBlocks z = ran("+5;+16");
        due("not one with a gap", 16, z.place(1, 0));
        TailBlocks last = ran("+192;+176");
        last.create(16);
        due("the last block of the disk", 23 * 16, last.place(2, 0));
    }

    /** Block 0: gap of 8 at 2; block 1: gaps of 4 at 0 and at 12; the other blocks are free. */
    private static TailBlocks gaps() {
        return ran("+2;+8;+6;+4;+2;+10;<5:4;-1;-3");
    }

    private static TailBlocks set(TailBlocks x) {
        x.set(1);
        return x;
    }

    static void gapsJustLongEnough() {
        says(TERMS, "with at least as many cells as the tail");
        due("as many", 2, gaps().ifPlaced(8));
        due("one too few", 32, gaps().ifPlaced(9));
        due("as many at the end of a block", 12, ran("+12").ifPlaced(4));
        due("one too few there", 16, ran("+12").ifPlaced(5));
        due("the longest gap of all", 1, ran("+1").ifPlaced(15));
        due("as many for the shortest gap", 16, set(gaps()).ifPlaced(4));
        due("one too few there", 2, set(gaps()).ifPlaced(5));
        due("the longest one by the other rule", 2, set(gaps()).ifPlaced(8));
        due("none by the other rule", 32, set(gaps()).ifPlaced(9));
    }

    static void gapsAreAsLongAsTheyCanBe() {
        says(TERMS, "a row of cells there that no tail takes, as long as it can be");
        TailBlocks x = ran("+3;+4;+5;+4;-1;-2");
        due("two tails gone make one gap", 3, x.ifPlaced(9));
        due("and no longer one", 16, x.ifPlaced(10));
        TailBlocks y = ran("+12;+9;+7;-1");
        due("a gap ends with its block", 32, y.ifPlaced(10));
        TailBlocks z = set(ran("+4;+12;-0;+16;+16"));
        due("a gap of 4", 0, z.ifPlaced(4));
        due("a free block is none", 48, z.ifPlaced(5));
        due("nor is a whole one", 32, with(16, 16).ifPlaced(1));
        TailBlocks bad = spoilt("+4", 0);
        due("nor one that is bad", 16, bad.ifPlaced(1));
        says(TERMS, "A tail is placed in a gap of a shared block");
        due("also beside a broken file's tail", 16 + 4, spoilt("+20", 0).ifPlaced(12));
    }

    static void firstGap() {
        says(TERMS, "by setting 0: 0: in the first one, by ascending blocks, then cells");
        due("though a later one is shorter", 2, gaps().ifPlaced(1));
        due("by blocks", 12, ran("+12;+12").ifPlaced(4));
        due("by cells", 0, ran("+4;+2;+10;<2:4;-0").ifPlaced(4));
        due("the first that is long enough", 16 + 4, ran("+13;+4").ifPlaced(12));
    }

    static void shortestGap() {
        says(TERMS, "1: in the shortest one, of several the first one");
        due("in a later block", 16, set(gaps()).ifPlaced(1));
        due("later in the same block", 13, set(ran("+5;+2;+6;-0")).ifPlaced(3));
        due("of two in a block", 0, set(ran("+4;+2;+10;<2:4;-0")).ifPlaced(4));
        due("of two in two blocks", 12, set(ran("+12;+12")).ifPlaced(4));
        due("a cell shorter is shorter", 16 + 12, set(ran("+11;+12")).ifPlaced(4));
    }

    static void firstCellsOfTheGap() {
        says(TERMS, "It takes the first cells of the gap.");
        TailBlocks x = gaps();
        x.create(3);
        due("its first cell", 2, x.place(1, 0));
        due("its last cell", 4, x.place(1, 2));
        due("the rest is a gap", 5, x.ifPlaced(5));
        due("up to where it ended", 32, x.ifPlaced(6));
    }

    static void withoutAGap() {
        says(TERMS, "Without such a gap it takes the first cells of the lowest free block, which is shared then.");
        TailBlocks x = ran("+16;+5;-0");
        x.create(11);
        due("with a gap, though a lower block is free", 16 + 5, x.place(0, 0));
        x.create(1);
        due("without", 0, x.place(2, 0));
        dueBlock("it is shared", x, 0, 2, 1, 1, 15, NONE);
        TailBlocks last = ran("+192;+176");
        due("the last block of the disk", 23 * 16, last.ifPlaced(15));
        due("no block is left", NONE, ran("+192;+192").ifPlaced(1));
    }

    static void blocksWithoutTailsBecomeFree() {
        says(TERMS, "A shared block that holds no tail any more becomes free.");
        TailBlocks x = ran("+5;+5;-0");
        due("one tail is left", 2, x.blockOf(0, 0));
        x.delete(1);
        due("none by a deletion", 0, x.blockOf(0, 0));
        due("none by a cut", 0, ran("+5;<0:5").blockOf(0, 0));
        due("one cell is left by a cut", 2, ran("+5;<0:4").blockOf(0, 0));
        due("none by growing into another block", 0, ran("+16;+9;-0;>1:7").blockOf(1, 0));
        TailBlocks y = ran("+9;+9;<0:1;<1:1");
        y.pack();
        due("none by packing", 0, y.blockOf(1, 0));
    }
}
