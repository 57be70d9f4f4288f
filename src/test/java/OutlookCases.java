import java.math.BigInteger;
import java.util.ArrayList;
import java.util.List;

/** Promises 21 to 28: what would be, which changes nothing. */
final class OutlookCases extends Cases {
    private OutlookCases() {
    }

    private static TailBlocks set(TailBlocks x) {
        x.set(1);
        return x;
    }

    /** Disks on which what would be is tried out by doing it. */
    private static List<Maker> disks() {
        return List.of(TailBlocks::new, Cases::busy, Cases::tenFiles, () -> ran("+192;+192"), () -> ran("+192;+176"),
            () -> ran("+200;+176"), () -> ran("+200;+160;+15"), () -> ran("+192;+176;+7;+7"),
            () -> ran("+192;+176;+4;+4;+4;-2"), () -> set(ran("+4;+2;+10;<2:4;-0;+200;+120")),
            () -> spoilt("+20;+5;+40;+13", 0, 5), () -> spoilt("+192;+160;+8", 21, 22));
    }

    // ---- promise 21

    static void ifPlacedCells() {
        says(21, "cells: 1 to 15");
        unchanged("the least", 0, TailBlocks::new, x -> x.ifPlaced(1));
        unchanged("the most", 0, TailBlocks::new, x -> x.ifPlaced(15));
        says(21, "Throws IllegalArgumentException if cells is out of range");
        thrown("cells", ARGUMENT, TailBlocks::new, (x, cells) -> x.ifPlaced(cells), -1, 0, 16, MIN, MAX);
        thrown("cells", ARGUMENT, Cases::busy, (x, cells) -> x.ifPlaced(cells), -1, 0, 16, 32, MIN, MAX);
        thrown("cells, no place is left,", ARGUMENT, () -> ran("+192;+192"), (x, cells) -> x.ifPlaced(cells), 0, 16);
    }

    static void ifPlacedNowhere() {
        says(21, "Returns 16 times the block, and the first cell there; NONE if there is no place.");
        unchanged("a full disk", NONE, () -> ran("+192;+192"), x -> x.ifPlaced(1));
        unchanged("a gap just long enough", 12 * 16 + 8, () -> ran("+200;+176"), x -> x.ifPlaced(8));
        unchanged("a gap a cell too short", NONE, () -> ran("+200;+176"), x -> x.ifPlaced(9));
        unchanged("the last cell of the disk", 383, () -> ran("+192;+176;+15"), x -> x.ifPlaced(1));
        unchanged("the last block", 23 * 16, () -> ran("+192;+176"), x -> x.ifPlaced(15));
        unchanged("a bad block is no place", NONE, () -> spoilt("+192;+176", 23), x -> x.ifPlaced(1));
        unchanged("a place, though there are ten files", 0, Cases::tenFiles, x -> x.ifPlaced(15));
        says(21, "int ifPlaced(int cells) throws IllegalArgumentException: Tells where a tail would be placed.");
        for (Maker disk : disks()) {
            for (int cells = 1; cells <= 15; cells++) {
                TailBlocks x = disk.make();
                int file = x.create(cells);
                if (file != NONE || x.count(0) < 10) {
                    due("as create() does", file == NONE ? NONE : x.place(file, 0), disk.make().ifPlaced(cells));
                }
            }
        }
    }

    // ---- promise 22

    static void ifGrownNoSuchFile() {
        says(22, "file: its number");
        unchanged("the first file", 0, () -> ran("+1"), x -> x.ifGrown(0, 1));
        unchanged("the last file", 0, () -> ran("+0;+0;+0;+0;+0;+0;+0;+0;+0;+1"), x -> x.ifGrown(9, 1));
        says(22, "Throws IndexOutOfBoundsException if there is no such file");
        thrown("file", INDEX, TailBlocks::new, (x, file) -> x.ifGrown(file, 1), 0, 9);
        thrown("file", INDEX, Cases::busy, (x, file) -> x.ifGrown(file, 1), -1, 3, 6, 9, 10, MIN, MAX);
        thrown("a wrong number too, file", INDEX, Cases::busy, (x, file) -> x.ifGrown(file, 0), -1, 3, 10);
        thrown("a number too large too, file", INDEX, Cases::busy, (x, file) -> x.ifGrown(file, 201), -1, 3, 10);
    }

    static void ifGrownCells() {
        says(22, "cells: 1 to 200");
        unchanged("the least", 0, () -> ran("+5"), x -> x.ifGrown(0, 1));
        unchanged("the most", 1, () -> ran("+0"), x -> x.ifGrown(0, 200));
        says(22, "Throws IllegalArgumentException if cells is out of range");
        thrown("cells", ARGUMENT, Cases::busy, (x, cells) -> x.ifGrown(0, cells), -1, 0, 201, MIN, MAX);
        thrown("a broken file, by", ARGUMENT, Cases::busy, (x, cells) -> x.ifGrown(2, cells), 0, 201);
        thrown("the greatest file, by", ARGUMENT, () -> ran("+200"), (x, cells) -> x.ifGrown(0, cells), 0, 201, MAX);
    }

    static void ifGrownAsGrow() {
        says(22, "Returns what grow() would return.");
        unchanged("up to the next tail", 0, () -> ran("+4;+4;+4;-1"), x -> x.ifGrown(0, 4));
        unchanged("a cell into it", 1, () -> ran("+4;+4;+4;-1"), x -> x.ifGrown(0, 5));
        unchanged("to 200", 0, () -> ran("+199"), x -> x.ifGrown(0, 1));
        unchanged("to 201, which is not counted", NONE, () -> ran("+199"), x -> x.ifGrown(0, 2));
        unchanged("no block, and a gap too short", NONE, () -> ran("+200;+160;+15"), x -> x.ifGrown(1, 9));
        unchanged("the block of its own tail", 1, () -> ran("+200;+160;+15"), x -> x.ifGrown(2, 9));
        unchanged("broken", NONE, () -> spoilt("+5;+20", 1), x -> x.ifGrown(1, 1));
        says(22, "int ifGrown(int file, int cells) throws IndexOutOfBoundsException, IllegalArgumentException:"
            + " Tells what growing would do.");
        for (Maker disk : disks()) {
            for (int file = 0; file < 10; file++) {
                int size = sizeOf(disk.make(), file);
                for (int cells = 1; size != NONE && cells <= 200; cells += size + cells > 205 ? 60 : 1) {
                    due("as grow() by " + cells, disk.make().grow(file, cells), disk.make().ifGrown(file, cells));
                }
            }
        }
    }

    // ---- promise 23

    static void greatestOfNothingOrAll() {
        says(23, "Returns the greatest size, 0 to 200, with which create() would not be refused;"
            + " NONE if there is none.");
        unchanged("all", 200, TailBlocks::new, x -> x.greatest());
        unchanged("no file more", NONE, Cases::tenFiles, x -> x.greatest());
        unchanged("the tenth file", 200, () -> ran("+0;+0;+0;+0;+0;+0;+0;+0;+0"), x -> x.greatest());
        unchanged("no cells", 0, () -> ran("+192;+192"), x -> x.greatest());
        unchanged("one cell", 1, () -> ran("+192;+176;+15"), x -> x.greatest());
        unchanged("a gap, no block", 15, () -> ran("+192;+176;+1"), x -> x.greatest());
        unchanged("a block, no gap", 16, () -> ran("+192;+176"), x -> x.greatest());
        unchanged("a block and a gap", 24, () -> ran("+200;+160"), x -> x.greatest());
        unchanged("the first block alone", 16, () -> ran("+16;+192;+176;-0"), x -> x.greatest());
        unchanged("a gap in the first block alone", 8, () -> ran("+8;+192;+176"), x -> x.greatest());
        unchanged("12 blocks, no gap", 192, () -> ran("+192"), x -> x.greatest());
        unchanged("12 blocks and a gap a cell too short", 199, () -> ran("+185"), x -> x.greatest());
        unchanged("12 blocks and a gap just long enough", 200, () -> ran("+184"), x -> x.greatest());
        unchanged("13 blocks, no gap", 200, () -> ran("+176"), x -> x.greatest());
        unchanged("all blocks are bad", 0, OutlookCases::allBad, x -> x.greatest());
        says(23, "int greatest(): Tells the greatest file that could come.");
        for (Maker disk : disks()) {
            int greatest = disk.make().greatest();
            for (int size = 0; size <= 200; size++) {
                boolean comes = disk.make().create(size) != NONE;
                due("size " + size + " comes, but is greater", 1, comes && size > greatest ? 0 : 1);
                due("size " + size + " is the greatest, but does not come", 1, !comes && size == greatest ? 0 : 1);
            }
        }
    }

    private static TailBlocks allBad() {
        TailBlocks x = ran("+0");
        for (int block = 0; block < 24; block++) {
            x.spoil(block);
        }
        return x;
    }

    // ---- promise 24

    private static void fewest(String what, int want, Maker maker) {
        unchanged(what + ", told by sets", want, maker, x -> x.fewest(0));
        unchanged(what + ", told by trying", want, maker, x -> x.fewest(1));
    }

    static void fewestWhat() {
        says(24, "Throws IllegalArgumentException if what is not 0 or 1");
        thrown("what", ARGUMENT, TailBlocks::new, (x, what) -> x.fewest(what), -1, 2, MIN, MAX);
        thrown("what", ARGUMENT, Cases::busy, (x, what) -> x.fewest(what), -1, 2, MIN, MAX);
        says(24, "what: 0: told by sets of tails; 1: told by trying, tail after tail");
        unchanged("by sets alone", 2, () -> ran("+9;+8"), x -> x.fewest(0));
        unchanged("by trying alone", 2, () -> ran("+9;+8"), x -> x.fewest(1));
    }

    static void fewestOfNothingOrAll() {
        says(24, "Returns the fewest blocks (the same for both).");
        fewest("no file", 0, TailBlocks::new);
        fewest("ten files without tails", 0, Cases::tenFiles);
        fewest("whole blocks alone", 0, () -> ran("+192;+192"));
        fewest("one cell", 1, () -> ran("+1"));
        fewest("16 cells", 1, () -> ran("+8;+8"));
        fewest("17 cells", 2, () -> ran("+9;+8"));
        fewest("ten tails in one block", 1, () -> ran("+1;+1;+1;+1;+1;+1;+1;+1;+1;+7"));
        fewest("ten tails, a cell too many", 2, () -> ran("+1;+1;+1;+1;+1;+1;+1;+1;+1;+8"));
        fewest("ten blocks", 10, () -> with(9, 9, 9, 9, 9, 9, 9, 9, 9, 9));
        fewest("ten of the longest", 10, () -> with(15, 15, 15, 15, 15, 15, 15, 15, 15, 15));
        fewest("five blocks, all full", 5, () -> with(8, 8, 8, 8, 8, 8, 8, 8, 8, 8));
        fewest("9 of 15 and one of 1", 9, () -> with(15, 15, 15, 15, 15, 15, 15, 15, 15, 1));
    }

    static void fewestHoweverPutTogether() {
        says(24, "int fewest(int what) throws IllegalArgumentException: Tells how many blocks the tails of all files"
            + " that are not broken need at least, however they are put together.");
        fewest("not as packing puts them", 2, () -> ran("+6;+5;+5;+6;+5;+5"));
        fewest("not as they lie", 1, () -> ran("+9;+9;<0:1;<1:1"));
        fewest("tails that no number of cells tells", 5, () -> with(6, 6, 6, 6, 6, 6, 6, 6, 6, 6));
        fewest("many ways", 4, () -> with(6, 5, 5, 5, 5, 5, 5, 4, 4, 4));
        fewest("five blocks of five ways", 5, () -> with(15, 1, 14, 2, 13, 3, 12, 4, 11, 5));
        fewest("also more than are shared now", 1, () -> ran("+192;+191"));
        fewest("not a broken file's tail", 1, () -> spoilt("+20;+13", 0));
        fewest("not a lost tail", 1, () -> spoilt("+9;+9", 0));
        fewest("none is left", 0, () -> spoilt("+9;+9", 0, 1));
        fewest("asked before, of more tails", 1, OutlookCases::asked);
    }

    /** Two tails of 8 cells; what the tails need was asked when there were ten of 15. */
    private static TailBlocks asked() {
        TailBlocks x = with(15, 15, 15, 15, 15, 15, 15, 15, 15, 15);
        due("ten tails, by sets", 10, x.fewest(0));
        due("ten tails, by trying", 10, x.fewest(1));
        due("ten tails, packed", 0, x.ifPacked());
        type(x, "-0;-1;-2;-3;-4;-5;-6;-7;<8:7;<9:7");
        x.run();
        return x;
    }

    // ---- promise 25

    static void ifPackedAsPack() {
        says(25, "Returns what pack() would return.");
        unchanged("no file", 0, TailBlocks::new, x -> x.ifPacked());
        unchanged("nothing is freed", 0, () -> ran("+9;+9;<1:1"), x -> x.ifPacked());
        unchanged("one is freed", 1, () -> ran("+9;+9;<0:1;<1:1"), x -> x.ifPacked());
        unchanged("a tail finds no block", NONE, () -> ran("+6;+5;+5;+6;+5;+5"), x -> x.ifPacked());
        unchanged("a broken file's tail in the only block", NONE, () -> spoilt("+20;+12", 0), x -> x.ifPacked());
        unchanged("broken files alone", 0, () -> spoilt("+20", 0), x -> x.ifPacked());
        unchanged("asked before, of more tails", 1, OutlookCases::asked, x -> x.ifPacked());
        says(25, "int ifPacked(): Tells how many blocks packing would free.");
        for (Maker disk : disks()) {
            int free = disk.make().count(1);
            TailBlocks x = disk.make();
            int freed = x.pack();
            due("as pack() does", freed, disk.make().ifPacked());
            due("blocks that are freed", freed == NONE ? 0 : freed, x.count(1) - free);
        }
    }

    // ---- promise 26

    static void weakestOfNothing() {
        says(26, "NONE if there is none with such a file");
        unchanged("no file", NONE, TailBlocks::new, x -> x.weakest());
        unchanged("ten files without cells", NONE, Cases::tenFiles, x -> x.weakest());
        unchanged("all files are broken", NONE, () -> spoilt("+20;+4", 0, 1), x -> x.weakest());
        unchanged("the only file is broken, a block of it is not bad", NONE, () -> spoilt("+20", 0), x -> x.weakest());
        unchanged("all blocks are bad", NONE, OutlookCases::allBad, x -> x.weakest());
    }

    static void weakestOfSeveral() {
        says(26, "Returns of the blocks that are not bad the one with the most files that are not broken"
            + " which have something in it, of several the lowest");
        unchanged("the first block", 0, () -> ran("+1"), x -> x.weakest());
        unchanged("the lowest of a full disk", 0, () -> ran("+192;+192"), x -> x.weakest());
        unchanged("the last block of the disk", 23, () -> ran("+192;+176;+8;+8"), x -> x.weakest());
        unchanged("two tails are more than a whole block", 1, () -> ran("+16;+4;+4"), x -> x.weakest());
        unchanged("a whole block and a tail are one file each", 0, () -> ran("+16;+4"), x -> x.weakest());
        unchanged("ten tails", 0, () -> ran("+1;+1;+1;+1;+1;+1;+1;+1;+1;+1"), x -> x.weakest());
        unchanged("a broken file's tail does not count", 1, () -> spoilt("+20;+12;+16", 0), x -> x.weakest());
        unchanged("the lowest, as its two tails count one", 1, () -> spoilt("+20;+12;+10", 0), x -> x.weakest());
        unchanged("not the lowest, as its two count one", 4, () -> spoilt("+20;+32;+12;+9;+5", 0), x -> x.weakest());
        says(26, "int weakest(): Finds the block whose turning bad would hurt the most.");
        for (Maker disk : disks()) {
            int weakest = disk.make().weakest();
            int most = weakest == NONE ? 0 : disk.make().spoil(weakest);
            due("it hurts", 1, weakest == NONE || most > 0 ? 1 : 0);
            for (int block = 0; block < 24; block++) {
                int hurt = disk.make().blockOf(block, 0) == 3 ? 0 : disk.make().spoil(block);
                boolean less = block < weakest ? hurt < most : hurt <= most;
                due("block " + block + " hurts no more", 1, less ? 1 : 0);
            }
        }
    }

    // ---- promise 27

    static void usedShareOfNothingOrAll() {
        says(27, "1.0 without these");
        dueShare("no file", 1.0, new TailBlocks());
        dueShare("files without cells", 1.0, tenFiles());
        dueShare("free blocks and bad ones alone", 1.0, spoilt("+0", 0, 23));
        dueShare("all blocks are bad", 1.0, allBad());
        dueShare("all that files have is lost", 1.0, spoilt("+20", 0, 1));
        says(27, "Returns count(5) as a double, divided by 16 times the whole and the shared blocks");
        dueShare("a full disk", 1.0, ran("+192;+192"));
        dueShare("a full shared block", 1.0, ran("+15;+1"));
        dueShare("one cell", 1.0 / 16.0, ran("+1"));
        dueShare("a cell less than a block", 15.0 / 16.0, ran("+15"));
        dueShare("no rounding down", 17.0 / 32.0, ran("+17"));
        dueShare("thirds", 40.0 / 48.0, ran("+40"));
        dueShare("a bad block does not count", 4.0 / 16.0, spoilt("+20", 0));
        dueShare("a lost tail does not count", 1.0, spoilt("+20", 1));
        dueShare("ten blocks of one cell each", 10.0 / 160.0, tenFarApart());
        says(27, "double usedShare(): Returns how well blocks are used.");
        for (Maker disk : disks()) {
            TailBlocks x = disk.make();
            int blocks = x.count(2) + x.count(3);
            dueShare("as counted", blocks == 0 ? 1.0 : (double) x.count(5) / (16.0 * blocks), x);
        }
    }

    /** Ten tails of one cell, each in a block of its own. */
    private static TailBlocks tenFarApart() {
        TailBlocks x = with(15, 15, 15, 15, 15, 15, 15, 15, 15, 15);
        for (int file = 0; file < 10; file++) {
            x.cut(file, 14);
        }
        return x;
    }

    // ---- promise 28

    /** The list that the hash is made of, told by the other calls. */
    private static List<Long> values(TailBlocks x, String slots, String buffer) {
        List<Long> values = new ArrayList<>();
        for (int what = 0; what <= 11; what++) {
            values.add((long) x.count(what));
        }
        for (int file = 0; file < 10; file++) {
            addFile(values, x, file);
        }
        for (int block = 0; block < 24; block++) {
            for (int what = 0; what <= 4; what++) {
                values.add((long) x.blockOf(block, what));
            }
        }
        int[] outlook = {x.ifPlaced(1), x.ifPlaced(5), x.ifPlaced(15), x.greatest(), x.fewest(0), x.fewest(1),
            x.ifPacked(), x.weakest()};
        for (int value : outlook) {
            values.add((long) value);
        }
        values.add(Double.doubleToLongBits(x.usedShare()));
        for (char slot : slots.toCharArray()) {
            values.add((long) slot - '0');
        }
        values.add((long) buffer.length());
        for (char code : buffer.toCharArray()) {
            values.add((long) code);
        }
        return values;
    }

    private static void addFile(List<Long> values, TailBlocks x, int file) {
        int size = sizeOf(x, file);
        if (size == NONE) {
            return;
        }
        values.add((long) file);
        for (int what = 0; what <= 6; what++) {
            values.add((long) x.fileOf(file, what));
        }
        if (size > 0) {
            values.add((long) x.place(file, 0));
            values.add((long) x.place(file, size - 1));
        }
        values.add((long) x.ifGrown(file, 1));
        values.add((long) x.ifGrown(file, 16));
    }

    /** Without overflow up to the end, where the last 64 bits alone are taken. */
    private static long hashOf(List<Long> values) {
        BigInteger hash = BigInteger.valueOf(3499);
        for (long value : values) {
            hash = hash.multiply(BigInteger.valueOf(31)).add(BigInteger.valueOf(value));
        }
        return hash.longValue();
    }

    private static void digest(String what, String slots, String buffer, Maker maker) {
        unchanged(what, hashOf(values(maker.make(), slots, buffer)), maker, x -> x.digest());
    }

    static void digestOfNothingOrAll() {
        says(28, "The hash starts at 3499.");
        digest("a new object", "00", "", TailBlocks::new);
        says(28, "the hash becomes 31 * hash + v, in long arithmetic with overflow");
        digest("a full disk", "00", "", () -> ran("+192;+192"));
        digest("a busy one", "11", "+1;>0", Cases::busy);
        says(28, "for each file that there is, by ascending numbers, its number, its properties 0 to 6,"
            + " place of the first and of the last cell, if it has any, and ifGrown by 1 and by 16");
        digest("ten files without cells", "00", "", Cases::tenFiles);
        digest("ten files of one cell", "00", "", () -> ran("+1;+1;+1;+1;+1;+1;+1;+1;+1;+1"));
        digest("a file is gone between others", "00", "", () -> ran("+1;+2;+3;-1"));
        digest("by 16 just to 200", "00", "", () -> with(184));
        digest("by 16 just above 200", "00", "", () -> with(185));
        digest("by 1 just to 200", "00", "", () -> with(199));
        digest("by 1 just above 200", "00", "", () -> with(200));
        digest("first and last cells in bad blocks", "00", "", () -> spoilt("+20;+5", 0, 1));
        says(28, "the bits of usedShare (as Double.doubleToLongBits)");
        for (int size = 1; size <= 192; size += size < 32 ? 1 : 9) {
            int cells = size;
            digest("the share of " + size + " cells", "00", "", () -> with(cells));
        }
        digest("the least share", "00", "", OutlookCases::tenFarApart);
        digest("all blocks are bad", "00", "", OutlookCases::allBad);
        says(28, "for each slot 1 if it has a snapshot, otherwise 0");
        digest("slot 0", "10", "", () -> kept(0));
        digest("slot 1", "01", "", () -> kept(1));
        says(28, "the length of the buffer and each of its character codes");
        String full = "!~!~!~!~!~!~!~!~!~!~!~!~!~!~!~!~!~!~!~!~!~!~!~!~!~!~!~!~!~!~";
        digest("a full buffer", "00", full, () -> typed(full));
        digest("one character", "00", "!", () -> typed("!"));
        TailBlocks x = typed(full);
        x.clearBuffer();
        due("a cleared buffer is an empty one", new TailBlocks().digest(), x.digest());
        says(28, "Returns the hash.");
        TailBlocks used = with(1, 2, 3, 4, 5, 6);
        for (int n = 0; n < 6; n++) {
            used.undo();
        }
        due("all undone, as at first", new TailBlocks().digest(), used.digest());
        says(28, "long digest(): Computes a hash of the whole state.");
        due("the buffer counts", 1, typed("+").digest() == typed("-").digest() ? 0 : 1);
        due("saved states count", 1, ran("+0;-0").digest() == new TailBlocks().digest() ? 0 : 1);
    }

    private static TailBlocks kept(int slot) {
        TailBlocks x = ran("+5");
        x.keep(slot);
        return x;
    }
}
