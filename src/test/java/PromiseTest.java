/** The promises one by one, with answers worked out by hand from the document. */
public final class PromiseTest {
    private static final String INDEX = "IndexOutOfBoundsException";
    private static final String ARGUMENT = "IllegalArgumentException";
    private static final String STATE = "IllegalStateException";

    private static int wrong = 0;
    private static int checks = 0;

    private interface Call {
        long answer();
    }

    private static void due(String what, long want, long got) {
        checks++;
        if (want != got) {
            wrong++;
            System.out.println(what + ": due is " + want + ", answered " + got);
        }
    }

    /** The call throws just this, and nothing is changed by it. */
    private static void dueThrow(String what, String want, TailBlocks x, Call call) {
        checks++;
        long before = x.digest();
        String got;
        try {
            got = "answer " + call.answer();
        } catch (RuntimeException e) {
            got = e.getClass().getSimpleName();
        }
        if (!want.equals(got)) {
            wrong++;
            System.out.println(what + ": due is " + want + ", got " + got);
        }
        due(what + " changes nothing", before, x.digest());
    }

    private static void type(TailBlocks x, String text) {
        for (int at = 0; at < text.length(); at++) {
            x.append(text.charAt(at));
        }
    }

    private static TailBlocks with(int... sizes) {
        TailBlocks x = new TailBlocks();
        for (int size : sizes) {
            x.create(size);
        }
        return x;
    }

    private static TailBlocks ran(String text) {
        TailBlocks x = new TailBlocks();
        type(x, text);
        x.run();
        return x;
    }

    private static void dueCounts(String what, TailBlocks x, int... want) {
        for (int n = 0; n < want.length; n++) {
            due(what + ", count(" + n + ")", want[n], x.count(n));
        }
    }

    private static void dueFile(String what, TailBlocks x, int file, int... want) {
        for (int n = 0; n < want.length; n++) {
            due(what + ", fileOf(" + file + ", " + n + ")", want[n], x.fileOf(file, n));
        }
    }

    private static void dueBlock(String what, TailBlocks x, int block, int... want) {
        for (int n = 0; n < want.length; n++) {
            due(what + ", blockOf(" + block + ", " + n + ")", want[n], x.blockOf(block, n));
        }
    }

    public static void main(String[] args) {
        newObject();
        create();
        createRefused();
        growInPlace();
        growElsewhere();
        growIntoOwnBlock();
        growRefused();
        cut();
        cutRefused();
        delete();
        deleteBroken();
        spoil();
        heal();
        pack();
        packRefused();
        set();
        append();
        clearBuffer();
        firstError();
        run();
        keepAndGoBack();
        undo();
        fileOf();
        place();
        blockOf();
        count();
        ifPlaced();
        ifGrown();
        greatest();
        fewest();
        ifPacked();
        weakest();
        usedShare();
        digest();
        System.out.println(wrong == 0 ? checks + " answers are as due" : wrong + " answers are not as due");
        if (wrong != 0) {
            System.exit(1);
        }
    }

    private static void newObject() {
        TailBlocks x = new TailBlocks();
        dueCounts("1", x, 0, 24, 0, 0, 0, 0, 0, 0, 0, 0, 0, 0);
        due("1 NONE", -1, TailBlocks.NONE);
        due("1 an empty buffer", 0, x.clearBuffer());
        dueThrow("1 slot 0 is empty", STATE, x, () -> x.goBack(0));
        dueThrow("1 slot 1 is empty", STATE, x, () -> x.goBack(1));
        dueThrow("1 no saved state", STATE, x, () -> x.undo());
        TailBlocks other = new TailBlocks();
        other.create(20);
        due("1 objects share nothing", 0, x.count(0));
    }

    private static void create() {
        TailBlocks x = new TailBlocks();
        due("2 first", 0, x.create(37));
        due("2 second", 1, x.create(9));
        due("2 size 0", 2, x.create(0));
        dueFile("2 whole blocks come before the tail", x, 0, 37, 2, 5, 2, 0, 0, 1);
        dueFile("2 into the gap", x, 1, 9, 0, 9, 2, 5, 0, 1);
        dueFile("2 without cells", x, 2, 0, 0, 0, -1, -1, 0, 0);
        x.delete(1);
        due("2 lowest number that no file has", 1, x.create(32));
        dueFile("2 no tail", x, 1, 32, 2, 0, -1, -1, 0, 0);
        due("2 wholes in the lowest free blocks", 3 * 16, x.place(1, 0));
        due("2 largest", 3, x.create(200));
        dueThrow("2 size -1", ARGUMENT, x, () -> x.create(-1));
        dueThrow("2 size 201", ARGUMENT, x, () -> x.create(201));
        due("2 undo of it", 5, x.undo());
        due("2 gone", 3, x.count(0));
    }

    private static void createRefused() {
        TailBlocks x = with(0, 0, 0, 0, 0, 0, 0, 0, 0, 0);
        due("2 eleventh file", -1, x.create(0));
        due("2 is counted", 1, x.count(8));
        due("2 saves a state", 5, x.undo());
        due("2 and is uncounted by undo", 0, x.count(8));
        TailBlocks y = with(200, 176);
        dueCounts("2 all but one block", y, 2, 0, 23, 1);
        due("2 no block left", -1, y.create(16));
        due("2 the gap has 8", -1, y.create(9));
        due("2 the gap has 8", 2, y.create(8));
        due("2 nothing left", -1, y.create(1));
        due("2 size 0 needs none", 3, y.create(0));
        due("2 three were refused", 3, y.count(8));
        TailBlocks z = with(200, 160, 0);
        due("2 whole block but none for the tail", -1, z.create(16 + 9));
        due("2 nothing is left over", 1, z.count(1));
        due("2 with a tail into the gap", 3, z.create(16 + 8));
    }

    private static void growInPlace() {
        TailBlocks x = with(20, 3);
        due("3 beside another", 1, x.ifGrown(0, 1));
        due("3 in place", 0, x.grow(1, 9));
        dueFile("3 in place", x, 1, 12, 0, 12, 1, 4, 0, 1);
        due("3 up to the last cell of the block", 31, x.place(1, 11));
        due("3 no more room behind", 1, x.grow(1, 1));
        dueFile("3 moves on", x, 1, 13, 0, 13, 2, 0, 0, 2);
        due("3 in place with whole blocks", 0, x.grow(0, 11));
        dueFile("3 in place with whole blocks", x, 0, 31, 1, 15, 1, 0, 0, 1);
        due("3 becomes a whole block", 1, x.grow(0, 1));
        dueFile("3 becomes a whole block", x, 0, 32, 2, 0, -1, -1, 0, 1);
        due("3 into a gap between tails", 0, middleGone().grow(0, 4));
        due("3 past a gap between tails", 1, middleGone().grow(0, 5));
    }

    /** Tails of 4, (4), 4 in block 0. */
    private static TailBlocks middleGone() {
        TailBlocks x = with(4, 4, 4);
        x.delete(1);
        return x;
    }

    private static void growElsewhere() {
        TailBlocks x = with(5, 20, 7);
        due("3 away from a full block", 1, x.grow(0, 2));
        dueFile("3 away from a full block", x, 0, 7, 0, 7, 2, 0, 0, 2);
        due("3 without a tail", 1, with(16).grow(0, 1));
        TailBlocks y = with(0);
        due("3 from nothing", 1, y.grow(0, 200));
        dueFile("3 from nothing", y, 0, 200, 12, 8, 12, 0, 0, 1);
        due("3 order of whole blocks", 11 * 16 + 15, y.place(0, 191));
        dueThrow("3 no such file", INDEX, y, () -> y.grow(1, 0));
        dueThrow("3 file -1", INDEX, y, () -> y.grow(-1, 1));
        dueThrow("3 file 10", INDEX, y, () -> y.grow(10, 1));
        dueThrow("3 by 0", ARGUMENT, y, () -> y.grow(0, 0));
        dueThrow("3 by 201", ARGUMENT, y, () -> y.grow(0, 201));
    }

    private static void growIntoOwnBlock() {
        TailBlocks x = with(14);
        due("3 own block becomes whole", 1, x.grow(0, 3));
        due("3 the freed block is the lowest", 0, x.place(0, 0));
        dueFile("3 new tail", x, 0, 17, 1, 1, 1, 0, 0, 2);
        TailBlocks y = with(4, 4, 4);
        y.delete(0);
        due("3 longer than the gap with its own old cells", 1, y.grow(1, 5));
        dueFile("3 to the lowest free block", y, 1, 9, 0, 9, 1, 0, 0, 2);
        TailBlocks z = with(4, 4, 4);
        z.delete(0);
        z.grow(1, 4);
        dueFile("3 placed over its own old cells", z, 1, 8, 0, 8, 0, 0, 0, 2);
    }

    private static void growRefused() {
        TailBlocks x = with(199);
        due("3 above 200", -1, x.grow(0, 2));
        due("3 to 200", 0, x.grow(0, 1));
        due("3 counted", 1, x.count(8));
        TailBlocks y = full();
        due("3 no block left", -1, y.grow(1, 16));
        due("3 no block and no gap for the new tail", -1, y.grow(2, 10));
        dueFile("3 refused changes nothing", y, 2, 15, 0, 15, 23, 0, 0, 1);
        due("3 its tail's block counts as free", 1, y.grow(2, 9));
        dueFile("3 its tail's block is whole then", y, 2, 24, 1, 8, 12, 8, 0, 2);
        due("3 its tail's block is whole then", 23 * 16, y.place(2, 0));
        y.spoil(0);
        due("3 broken", -1, y.grow(0, 1));
        due("3 broken, above 200", -1, y.grow(0, 200));
        due("3 counted", 4, y.count(8));
        due("3 saves a state, also if refused", 5, y.undo());
        due("3 uncounted", 3, y.count(8));
    }

    /** No block is free; block 12 has a gap of 8 behind file 0's tail, block 23 file 2's tail of 15 alone. */
    private static TailBlocks full() {
        return with(200, 160, 15);
    }

    private static void cut() {
        TailBlocks x = with(5, 40, 3);
        due("4 its last cells", 38, x.cut(1, 2));
        dueFile("4 its last cells", x, 1, 38, 2, 6, 0, 5, 0, 1);
        dueBlock("4 a gap in the middle", x, 0, 2, 3, 14, 2, -1);
        due("4 all of the tail", 32, x.cut(1, 6));
        dueFile("4 the tail is gone", x, 1, 32, 2, 0, -1, -1, 0, 1);
        due("4 a whole block less", 30, x.cut(1, 2));
        dueFile("4 the new tail is placed", x, 1, 30, 1, 14, 2, 0, 0, 2);
        due("4 the last whole block is free again", 2 * 16, x.place(1, 16));
        due("4 to nothing", 0, x.cut(1, 30));
        dueFile("4 nothing is placed", x, 1, 0, 0, 0, -1, -1, 0, 2);
        dueCounts("4", x, 3, 23, 0, 1, 0, 8, 8, 0, 0, 0, 0, 6);
        TailBlocks y = with(9, 20);
        due("4 the only tail", 0, y.cut(0, 9));
        due("4 frees no block with another tail", 2, y.blockOf(0, 0));
        due("4 cut to 16", 16, y.cut(1, 4));
        due("4 frees the block", 0, y.blockOf(0, 0));
        TailBlocks z = with(35);
        due("4 tail and wholes", 17, z.cut(0, 18));
        dueFile("4 first gap or lowest free block", z, 0, 17, 1, 1, 1, 0, 0, 2);
    }

    private static void cutRefused() {
        TailBlocks x = with(20);
        due("4 more than it has", -1, x.cut(0, 21));
        due("4 counted", 1, x.count(8));
        due("4 all it has", 0, x.cut(0, 20));
        due("4 nothing to cut", -1, x.cut(0, 1));
        dueThrow("4 no such file", INDEX, x, () -> x.cut(1, 0));
        dueThrow("4 by 0", ARGUMENT, x, () -> x.cut(0, 0));
        dueThrow("4 by 201", ARGUMENT, x, () -> x.cut(0, 201));
        x.grow(0, 40);
        x.spoil(1);
        due("4 broken", -1, x.cut(0, 1));
        due("4 unchanged", 40, x.fileOf(0, 0));
        due("4 counted", 3, x.count(8));
        due("4 undone", 5, x.undo());
        due("4 uncounted", 2, x.count(8));
    }

    private static void delete() {
        TailBlocks x = with(40, 5);
        due("5 not the block it shares", 2, x.delete(0));
        due("5 the last tail", 1, x.delete(1));
        dueCounts("5 all free", x, 0, 24, 0, 0, 0, 0, 0, 0, 0, 0, 0, 4);
        dueThrow("5 gone", INDEX, x, () -> x.delete(0));
        dueThrow("5 file -1", INDEX, x, () -> x.delete(-1));
        dueThrow("5 file 10", INDEX, x, () -> x.delete(10));
        due("5 undone", 3, x.undo());
        due("5 back", 5, x.fileOf(1, 0));
        due("5 nothing to free", 0, with(0).delete(0));
        x.create(3);
        dueFile("5 a new file starts anew", x, 0, 3, 0, 3, 2, 0, 0, 1);
    }

    private static void deleteBroken() {
        TailBlocks x = with(40, 5);
        x.spoil(1);
        due("5 bad blocks stay bad", 1, x.delete(0));
        dueCounts("5 bad blocks stay bad", x, 1, 22, 0, 1, 1, 5, 11, 0);
        due("5 and can be healed then", 0, x.heal(1));
        TailBlocks y = with(40, 5);
        y.spoil(2);
        due("5 a tail in a bad block", 2, y.delete(0));
        due("5 another one there", 0, y.delete(1));
        due("5 then it can be healed", 0, y.heal(2));
        due("5 healed", 24, y.count(1));
        TailBlocks z = with(0);
        z.grow(0, 20);
        z.spoil(0);
        z.delete(0);
        due("5 a new file is not broken", 0, z.create(3));
        dueFile("5 a new file is not broken", z, 0, 3, 0, 3, 1, 0, 0, 1);
    }

    private static void spoil() {
        TailBlocks x = with(20, 5, 3, 32);
        due("6 three tails", 3, x.spoil(1));
        dueCounts("6", x, 4, 20, 3, 0, 1, 48, 0, 3);
        dueBlock("6", x, 1, 3, 0, 0, 0, -1);
        dueFile("6 the file keeps its place", x, 1, 5, 0, 5, 1, 4, 1, 1);
        due("6 a broken file's whole block", 0, x.spoil(0));
        due("6 a whole block", 1, x.spoil(2));
        due("6 a broken file's other block", 0, x.spoil(3));
        due("6 a free block", 0, x.spoil(23));
        dueThrow("6 bad", STATE, x, () -> x.spoil(23));
        dueThrow("6 block -1", INDEX, x, () -> x.spoil(-1));
        dueThrow("6 block 24", INDEX, x, () -> x.spoil(24));
        due("6 undone", 5, x.undo());
        due("6 undone", 0, x.blockOf(23, 0));
        due("6 no file's block is chosen", 64, x.ifPlaced(3));
        TailBlocks y = with(20, 5);
        y.spoil(0);
        due("6 a broken file's tail stays", 2, y.blockOf(1, 1));
        due("6 beside it is a gap", 16 + 9, y.ifPlaced(3));
    }

    private static void heal() {
        TailBlocks x = with(20, 5);
        x.spoil(1);
        x.spoil(7);
        due("7 one is left", 1, x.heal(7));
        dueBlock("7 free then", x, 7, 0, 0, 0, 0, -1);
        dueThrow("7 a broken file has something there", STATE, x, () -> x.heal(1));
        x.delete(1);
        dueThrow("7 another one has", STATE, x, () -> x.heal(1));
        x.delete(0);
        due("7 none is left", 0, x.heal(1));
        dueThrow("7 not bad", STATE, x, () -> x.heal(1));
        dueThrow("7 block -1", INDEX, x, () -> x.heal(-1));
        dueThrow("7 block 24", INDEX, x, () -> x.heal(24));
        due("7 undone", 5, x.undo());
        due("7 undone", 3, x.blockOf(1, 0));
        TailBlocks y = with(20);
        y.spoil(0);
        dueThrow("7 a broken file's whole block", STATE, y, () -> y.heal(0));
        y.delete(0);
        due("7 the lowest free block again", 0, healed(y));
    }

    private static int healed(TailBlocks x) {
        x.heal(0);
        return x.ifPlaced(1);
    }

    /** Tails of 9, 6 and 9 in three blocks, 6 and 9 that were between are gone: 0: 9; 1: 6 at 9; 2: 9. */
    private static TailBlocks scattered() {
        TailBlocks x = with(9, 9, 6, 9, 6);
        x.delete(2);
        x.delete(1);
        return x;
    }

    private static void pack() {
        TailBlocks x = scattered();
        dueFile("8 before", x, 4, 6, 0, 6, 1, 9, 0, 1);
        due("8 one becomes free", 1, x.pack());
        dueFile("8 longest first, of several the lowest file", x, 0, 9, 0, 9, 0, 0, 0, 2);
        dueFile("8 the next block", x, 3, 9, 0, 9, 1, 0, 0, 2);
        dueFile("8 right behind", x, 4, 6, 0, 6, 0, 9, 0, 2);
        due("8 counted", 1, x.count(9));
        due("8 nothing more", 0, x.pack());
        due("8 counted also then", 2, x.count(9));
        due("8 placed also then", 3, x.fileOf(4, 6));
        due("8 undone", 5, x.undo());
        due("8 undone", 4, x.undo());
        due("8 uncounted", 0, x.count(9));
        due("8 undone", 1, x.fileOf(4, 3));
        due("8 nothing there", 0, new TailBlocks().pack());
        TailBlocks y = with(3, 4, 5, 4);
        y.pack();
        due("8 descending", 0, y.fileOf(2, 4));
        due("8 the lowest file of several", 5, y.fileOf(1, 4));
        due("8 then the next", 9, y.fileOf(3, 4));
        due("8 the shortest", 13, y.fileOf(0, 4));
    }

    private static void packRefused() {
        TailBlocks x = with(20, 12, 8);
        x.spoil(0);
        due("8 the second tail finds no block", -1, x.pack());
        dueFile("8 the first one is not moved", x, 1, 12, 0, 12, 1, 4, 0, 1);
        dueFile("8 nor the second one", x, 2, 8, 0, 8, 2, 0, 0, 1);
        due("8 not counted", 0, x.count(9));
        due("8 saved also then", 4, x.undo());
        TailBlocks y = with(5, 21, 8, 3);
        y.spoil(1);
        due("8 a block with a broken tail stays shared", 0, y.pack());
        dueFile("8 the broken tail stays", y, 1, 21, 1, 5, 0, 5, 1, 1);
        dueFile("8 the longest one", y, 2, 8, 0, 8, 2, 0, 0, 2);
        dueFile("8 away from the broken tail", y, 0, 5, 0, 5, 2, 8, 0, 2);
        dueFile("8 away from the broken tail", y, 3, 3, 0, 3, 2, 13, 0, 2);
        dueBlock("8 beside the broken tail", y, 0, 2, 1, 5, 6, -1);
    }

    private static void set() {
        TailBlocks x = new TailBlocks();
        due("9 at first", 0, x.set(1));
        due("9 then", 1, x.set(1));
        due("9 is told", 1, x.count(10));
        due("9 undone", 1, x.undo());
        due("9 still", 1, x.count(10));
        due("9 undone", 0, x.undo());
        due("9 as at first", 0, x.count(10));
        dueThrow("9 value -1", ARGUMENT, x, () -> x.set(-1));
        dueThrow("9 value 2", ARGUMENT, x, () -> x.set(2));
        TailBlocks y = gaps();
        due("9 the first gap", 2, y.ifPlaced(3));
        y.set(1);
        due("9 the first one of the shortest gaps", 16, y.ifPlaced(3));
        due("9 the only one that has enough", 2, y.ifPlaced(8));
        y.grow(5, 1);
        due("9 the shortest gap", 16 + 13, y.ifPlaced(3));
        due("9 places by it", 1, y.create(3));
        due("9 places by it", 16 + 13, y.place(1, 0));
    }

    /** Block 0: a tail of 2, a gap of 8, a tail of 6; block 1: a gap of 4, a tail of 2, a tail of 6, a gap of 4. */
    private static TailBlocks gaps() {
        TailBlocks x = with(2, 8, 6, 4, 2, 10);
        x.cut(5, 4);
        x.delete(1);
        x.delete(3);
        dueBlock("a disk with gaps", x, 0, 2, 2, 8, 8, -1);
        dueBlock("a disk with gaps", x, 1, 2, 2, 8, 4, -1);
        return x;
    }

    private static void append() {
        TailBlocks x = new TailBlocks();
        due("10 lowest", 1, x.append(33));
        due("10 highest", 2, x.append(126));
        dueThrow("10 code 32", ARGUMENT, x, () -> x.append(32));
        dueThrow("10 code 127", ARGUMENT, x, () -> x.append(127));
        for (int n = 3; n <= 60; n++) {
            due("10 more", n, x.append('0'));
        }
        dueThrow("10 full", STATE, x, () -> x.append('0'));
        dueThrow("10 full, but the code first", ARGUMENT, x, () -> x.append(0));
        due("10 not undoable", 0, x.count(11));
    }

    private static void clearBuffer() {
        TailBlocks x = new TailBlocks();
        type(x, "+1;");
        due("11 its length", 3, x.clearBuffer());
        due("11 empty", 0, x.clearBuffer());
        due("11 nothing is left", 1, x.append('+'));
        due("11 not undoable", 0, x.count(11));
    }

    private static void dueError(String text, int want) {
        TailBlocks x = new TailBlocks();
        type(x, text);
        due("12 " + text, want, x.firstError());
        due("12 " + text + " stays", text.length(), x.clearBuffer());
    }

    private static void firstError() {
        dueError("", 0);
        String[] begun = {"+", "+0", "+1", "+19", "+199", "+2", "+20", "+200", "+21", "+9", "+99", ">0", ">9:", ">5:1",
            ">5:200", "<3:20", "<3:199", "-7", "-7;", "+0;+0;", "-0;-9;<1:1;>2:2;+3"};
        for (String text : begun) {
            dueError(text, text.length());
        }
        String[] lastWrong = {"a", ";", "0", "++", "+;", "+00", "+01", "+201", "+210", "+300", "+2000", "+1:", ">:", ">>",
            ">1;", ">11", ">1:0", ">1::", ">1:;", ">1:201", "<1:999", "<2:1-", "-:", "-;", "-1:", "-11", "-1;;", "+1,",
            "+0;1", "!", "~"};
        for (String text : lastWrong) {
            dueError(text, text.length() - 1);
            dueError("-1;" + text + "+5", text.length() + 2);
        }
    }

    private static void run() {
        TailBlocks x = new TailBlocks();
        type(x, "+20;+5;>1:2;<0:4;-1;+9");
        due("13 all", 6, x.run());
        dueFile("13", x, 0, 16, 1, 0, -1, -1, 0, 1);
        dueFile("13", x, 1, 9, 0, 9, 1, 0, 0, 1);
        due("13 the buffer is cleared", 0, x.clearBuffer());
        due("13 one state is saved", 1, x.count(11));
        type(x, "+5;>0:185;+6");
        due("13 up to a refused one", 1, x.run());
        due("13 which is counted", 1, x.count(8));
        type(x, "+5;>7:1;+6");
        due("13 up to one that would throw", 1, x.run());
        due("13 which is not counted", 1, x.count(8));
        type(x, "<8:1");
        due("13 none", 0, x.run());
        due("13 the buffer is cleared", 0, x.clearBuffer());
        due("13 saved also then", 4, x.count(11));
        type(x, "-9");
        due("13 no such file", 0, x.run());
        due("13 undone", 4, x.undo());
        due("13 undone", 3, x.undo());
        due("13 undone as one call", 2, x.undo());
        due("13 undone as one call", 3, x.count(0));
        due("13 undone as one call", 1, x.undo());
        due("13 also what is counted", 0, x.count(8));
        String[] noTexts = {"", "+", "+1;", ">1", ">1:", "<0:", "-", "-1;", "+1;x", "+201"};
        for (String text : noTexts) {
            type(x, text);
            dueThrow("13 '" + text + "'", ARGUMENT, x, () -> x.run());
            due("13 '" + text + "' stays", text.length(), x.clearBuffer());
        }
        TailBlocks y = new TailBlocks();
        type(y, "+5;<0:5;<0:1;+1");
        due("13 up to a cut that is refused", 2, y.run());
        due("13 which is counted", 1, y.count(8));
        due("13 refused for blocks", 2, ran("+200;+176;+9").count(0));
        due("13 the longest text", 20, runLongest());
    }

    private static int runLongest() {
        TailBlocks x = new TailBlocks();
        for (int n = 0; n < 9; n++) {
            type(x, "+1;-0;");
        }
        type(x, "-9;-99");
        due("13 60 characters", 59, x.firstError());
        x.clearBuffer();
        for (int n = 0; n < 9; n++) {
            type(x, "+1;-0;");
        }
        type(x, "+1;-0");
        due("13 59 characters", 59, x.firstError());
        int done = x.run();
        due("13 all are gone", 0, x.count(0));
        return done;
    }

    private static void keepAndGoBack() {
        TailBlocks x = with(20, 5);
        x.set(1);
        x.pack();
        due("14 files", 2, x.keep(0));
        due("14 not undoable", 4, x.count(11));
        x.delete(0);
        due("14 files", 1, x.keep(1));
        x.delete(1);
        x.set(0);
        type(x, "+1");
        due("15 files then", 2, x.goBack(0));
        dueFile("15", x, 0, 20, 1, 4, 1, 5, 0, 2);
        due("15 the setting", 1, x.count(10));
        due("15 what is counted", 1, x.count(9));
        due("15 undoable", 6, x.count(11));
        due("15 the other one", 1, x.goBack(1));
        due("15 it stays", 2, x.goBack(0));
        x.create(7);
        due("15 and is not changed by calls", 2, x.goBack(0));
        due("15 the buffer is left alone", 2, x.clearBuffer());
        due("15 undone", 5, x.undo());
        due("15 undone", 3, x.count(0));
        due("14 in place of the one there", 3, x.keep(0));
        x.delete(2);
        due("14 in place of the one there", 3, x.goBack(0));
        dueThrow("14 slot -1", ARGUMENT, x, () -> x.keep(-1));
        dueThrow("14 slot 2", ARGUMENT, x, () -> x.keep(2));
        dueThrow("15 slot -1", ARGUMENT, x, () -> x.goBack(-1));
        dueThrow("15 slot 2", ARGUMENT, x, () -> x.goBack(2));
        TailBlocks y = new TailBlocks();
        y.keep(1);
        dueThrow("15 empty", STATE, y, () -> y.goBack(0));
        due("15 no files", 0, y.goBack(1));
        y.undo();
        due("15 slots are no part of a state", 0, y.goBack(1));
    }

    private static void undo() {
        TailBlocks x = new TailBlocks();
        for (int n = 0; n < 8; n++) {
            x.create(n);
        }
        due("16 at most 6 are saved", 6, x.count(11));
        type(x, "+1");
        for (int n = 5; n >= 0; n--) {
            due("16 left", n, x.undo());
            due("16 files", n + 2, x.count(0));
        }
        dueThrow("16 none", STATE, x, () -> x.undo());
        due("16 the buffer is left alone", 2, x.clearBuffer());
        x.grow(1, 200);
        due("16 saves a refused one", 1, x.count(11));
        x.create(3);
        due("16 anew", 1, x.undo());
        due("16 anew", 0, x.undo());
        due("16 and its count", 0, x.count(8));
    }

    private static void fileOf() {
        TailBlocks x = with(5, 40);
        dueFile("17", x, 0, 5, 0, 5, 0, 0, 0, 1);
        dueFile("17", x, 1, 40, 2, 8, 0, 5, 0, 1);
        x.grow(0, 1);
        dueFile("17 placed twice", x, 0, 6, 0, 6, 3, 0, 0, 2);
        x.grow(0, 1);
        dueFile("17 not placed in place", x, 0, 7, 0, 7, 3, 0, 0, 2);
        x.cut(0, 1);
        dueFile("17 not placed by being cut", x, 0, 6, 0, 6, 3, 0, 0, 2);
        x.pack();
        dueFile("17 placed by packing", x, 0, 6, 0, 6, 0, 8, 0, 3);
        x.cut(1, 10);
        dueFile("17 placed with other whole blocks", x, 1, 30, 1, 14, 2, 0, 0, 3);
        x.spoil(1);
        dueFile("17 broken", x, 1, 30, 1, 14, 2, 0, 1, 3);
        dueThrow("17 no such file", INDEX, x, () -> x.fileOf(2, 7));
        dueThrow("17 file -1", INDEX, x, () -> x.fileOf(-1, 0));
        dueThrow("17 file 10", INDEX, x, () -> x.fileOf(10, 0));
        dueThrow("17 what -1", ARGUMENT, x, () -> x.fileOf(0, -1));
        dueThrow("17 what 7", ARGUMENT, x, () -> x.fileOf(0, 7));
    }

    private static void place() {
        TailBlocks x = with(5, 40);
        due("18 first whole block", 16, x.place(1, 0));
        due("18 its last cell", 31, x.place(1, 15));
        due("18 second whole block", 32, x.place(1, 16));
        due("18 the tail", 5, x.place(1, 32));
        due("18 its last cell", 12, x.place(1, 39));
        dueThrow("18 behind it", INDEX, x, () -> x.place(1, 40));
        dueThrow("18 cell -1", INDEX, x, () -> x.place(1, -1));
        dueThrow("18 no such file", INDEX, x, () -> x.place(2, 0));
        x.delete(0);
        x.create(16);
        x.grow(1, 24);
        due("18 four whole blocks", 4, x.fileOf(1, 1));
        due("18 the third one", 0, x.place(1, 32));
        due("18 the fourth one", 16 * 4, x.place(1, 48));
        x.spoil(0);
        due("18 in a bad block", -1, x.place(1, 47));
        due("18 in another one", 64, x.place(1, 48));
        TailBlocks y = with(20);
        y.spoil(1);
        due("18 a tail in a bad block", -1, y.place(0, 16));
        due("18 the whole block", 15, y.place(0, 15));
    }

    private static void blockOf() {
        TailBlocks x = with(5, 20, 4);
        x.cut(0, 2);
        dueBlock("19 shared", x, 0, 2, 3, 11, 3, -1);
        dueBlock("19 whole", x, 1, 1, 0, 0, 0, 1);
        dueBlock("19 free", x, 2, 0, 0, 0, 0, -1);
        x.spoil(0);
        dueBlock("19 bad", x, 0, 3, 0, 0, 0, -1);
        dueBlock("19 whole, of a broken file", x, 1, 1, 0, 0, 0, 1);
        x.spoil(1);
        dueBlock("19 bad, no file's", x, 1, 3, 0, 0, 0, -1);
        dueThrow("19 block -1", INDEX, x, () -> x.blockOf(-1, 5));
        dueThrow("19 block 24", INDEX, x, () -> x.blockOf(24, 0));
        dueThrow("19 what -1", ARGUMENT, x, () -> x.blockOf(0, -1));
        dueThrow("19 what 5", ARGUMENT, x, () -> x.blockOf(0, 5));
    }

    private static void count() {
        TailBlocks x = with(5, 40, 9);
        dueCounts("20", x, 3, 20, 2, 2, 0, 54, 10, 0, 0, 0, 0, 3);
        x.spoil(0);
        x.create(200);
        x.create(200);
        x.set(1);
        dueCounts("20", x, 4, 7, 14, 2, 1, 241, 15, 2, 1, 0, 1, 6);
        x.pack();
        due("20 packings", 1, x.count(9));
        dueThrow("20 what -1", ARGUMENT, x, () -> x.count(-1));
        dueThrow("20 what 12", ARGUMENT, x, () -> x.count(12));
    }

    private static void ifPlaced() {
        TailBlocks x = gaps();
        long before = x.digest();
        due("21 the first gap", 2, x.ifPlaced(8));
        due("21 the lowest free block", 32, x.ifPlaced(9));
        due("21 nothing is changed", before, x.digest());
        TailBlocks y = with(200, 176);
        due("21 in a full disk", 12 * 16 + 8, y.ifPlaced(8));
        due("21 no place", -1, y.ifPlaced(9));
        dueThrow("21 no cells", ARGUMENT, x, () -> x.ifPlaced(0));
        dueThrow("21 16 cells", ARGUMENT, x, () -> x.ifPlaced(16));
    }

    private static void ifGrown() {
        TailBlocks x = with(20, 3);
        long before = x.digest();
        due("22 in place", 0, x.ifGrown(1, 9));
        due("22 not in place", 1, x.ifGrown(1, 10));
        due("22 above 200", -1, x.ifGrown(0, 181));
        due("22 nothing is changed, nothing is counted", before, x.digest());
        dueThrow("22 no such file", INDEX, x, () -> x.ifGrown(2, 0));
        dueThrow("22 by 0", ARGUMENT, x, () -> x.ifGrown(0, 0));
        dueThrow("22 by 201", ARGUMENT, x, () -> x.ifGrown(0, 201));
        x.spoil(0);
        due("22 broken", -1, x.ifGrown(0, 1));
        TailBlocks y = full();
        due("22 not enough blocks", -1, y.ifGrown(1, 16));
        due("22 a gap for the new tail", 1, y.ifGrown(1, 8));
        due("22 no gap for the new tail", -1, y.ifGrown(1, 9));
        due("22 the block of its tail", 1, y.ifGrown(2, 9));
        due("22 none for the new tail", -1, y.ifGrown(2, 10));
    }

    private static void greatest() {
        due("23 at first", 200, new TailBlocks().greatest());
        due("23 a gap of 8 and no block", 8, with(200, 176).greatest());
        due("23 a gap of 8 and a block", 24, with(200, 160).greatest());
        due("23 a block, no gap", 16, with(192, 176).greatest());
        due("23 nothing but size 0", 0, with(192, 192).greatest());
        due("23 two blocks", 32, with(192, 160).greatest());
        due("23 ten files", -1, with(0, 0, 0, 0, 0, 0, 0, 0, 0, 0).greatest());
    }

    private static void dueFewest(int want, TailBlocks x) {
        due("24 by sets", want, x.fewest(0));
        due("24 by trying", want, x.fewest(1));
    }

    private static void fewest() {
        dueFewest(0, new TailBlocks());
        dueFewest(0, with(0, 16, 32));
        dueFewest(1, with(1));
        dueFewest(10, with(9, 9, 9, 9, 9, 9, 9, 9, 9, 9));
        dueFewest(5, with(8, 8, 8, 8, 8, 8, 8, 8, 8, 8));
        // Descending first fit would need one block more for some of these.
        dueFewest(2, with(7, 5, 4, 3, 6, 5));
        dueFewest(3, with(10, 9, 5, 5, 6, 4, 7));
        dueFewest(2, with(6, 6, 5, 5, 5, 5));
        TailBlocks x = with(20, 15, 15);
        dueFewest(3, x);
        x.spoil(2);
        dueFewest(2, x);
        x.spoil(0);
        dueFewest(1, x);
        due("24 by trying alone", 2, with(15, 15).fewest(1));
        dueThrow("24 what -1", ARGUMENT, x, () -> x.fewest(-1));
        dueThrow("24 what 2", ARGUMENT, x, () -> x.fewest(2));
    }

    private static void ifPacked() {
        TailBlocks x = scattered();
        long before = x.digest();
        due("25 one block", 1, x.ifPacked());
        due("25 nothing is changed", before, x.digest());
        TailBlocks y = with(20, 12);
        y.spoil(0);
        due("25 no block is open", -1, y.ifPacked());
        due("25 without tails", 0, new TailBlocks().ifPacked());
    }

    private static void weakest() {
        due("26 no file", -1, new TailBlocks().weakest());
        due("26 files without cells", -1, with(0, 0).weakest());
        TailBlocks x = with(40, 5, 3, 16);
        due("26 three tails", 2, x.weakest());
        x.spoil(2);
        due("26 the only file that is not broken", 3, x.weakest());
        x.spoil(3);
        due("26 all are broken", -1, x.weakest());
        due("26 the lowest of several", 0, with(16, 16, 5).weakest());
    }

    private static void dueShare(double want, TailBlocks x) {
        due("27", Double.doubleToLongBits(want), Double.doubleToLongBits(x.usedShare()));
    }

    private static void usedShare() {
        dueShare(1.0, new TailBlocks());
        dueShare(1.0, with(32));
        dueShare(37.0 / 48.0, with(37));
        dueShare(1.0 / 16.0, with(1));
        dueShare(0.8125, with(9, 4));
        TailBlocks x = with(37);
        x.spoil(0);
        dueShare(21.0 / 32.0, x);
        x.spoil(1);
        x.spoil(2);
        dueShare(1.0, x);
    }

    /** The hash told once more by the other calls of the face. */
    private static long told(TailBlocks x, String buffer, int slot0, int slot1) {
        long[] hash = {3499};
        for (int what = 0; what < 12; what++) {
            put(hash, x.count(what));
        }
        for (int file = 0; file < 10; file++) {
            putFile(hash, x, file);
        }
        for (int block = 0; block < 24; block++) {
            for (int what = 0; what < 5; what++) {
                put(hash, x.blockOf(block, what));
            }
        }
        put(hash, x.ifPlaced(1), x.ifPlaced(5), x.ifPlaced(15), x.greatest(), x.fewest(0), x.fewest(1), x.ifPacked(),
            x.weakest(), Double.doubleToLongBits(x.usedShare()), slot0, slot1, buffer.length());
        for (char sign : buffer.toCharArray()) {
            put(hash, sign);
        }
        return hash[0];
    }

    private static void putFile(long[] hash, TailBlocks x, int file) {
        try {
            x.fileOf(file, 0);
        } catch (IndexOutOfBoundsException e) {
            return;
        }
        put(hash, file);
        for (int what = 0; what < 7; what++) {
            put(hash, x.fileOf(file, what));
        }
        int size = x.fileOf(file, 0);
        if (size > 0) {
            put(hash, x.place(file, 0), x.place(file, size - 1));
        }
        put(hash, x.ifGrown(file, 1), x.ifGrown(file, 16));
    }

    private static void put(long[] hash, long... values) {
        for (long value : values) {
            hash[0] = 31 * hash[0] + value;
        }
    }

    private static void digest() {
        TailBlocks x = new TailBlocks();
        due("28 at first", told(x, "", 0, 0), x.digest());
        type(x, "+20;+0;+5;>0:3");
        due("28 with a text", told(x, "+20;+0;+5;>0:3", 0, 0), x.digest());
        x.run();
        x.keep(1);
        due("28 with a slot", told(x, "", 0, 1), x.digest());
        x.spoil(1);
        x.keep(0);
        due("28 with broken files", told(x, "", 1, 1), x.digest());
        due("28 the same twice", x.digest(), x.digest());
        for (int size = 1; size <= 200; size += 7) {
            TailBlocks y = with(size, 3, 0);
            due("28 share of " + size, told(y, "", 0, 0), y.digest());
        }
    }
}
