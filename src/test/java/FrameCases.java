import java.util.Arrays;
import java.util.HashSet;
import java.util.List;
import java.util.Random;
import java.util.Set;

/** What stands ahead of the promises and behind them: "What it is" and "Not promised". */
final class FrameCases extends Cases {
    private static final int LAST_CALL = 512;

    private FrameCases() {
    }

    private static TailBlocks set(TailBlocks x) {
        x.set(1);
        return x;
    }

    private static TailBlocks packed(TailBlocks x) {
        x.pack();
        return x;
    }

    /** Disks of all kinds: without anything, full, with gaps, with bad blocks, packed. */
    private static List<Maker> disks() {
        return List.of(TailBlocks::new, Cases::busy, Cases::tenFiles, () -> ran("+192;+192"), () -> ran("+200;+175;+7"),
            () -> ran("+37;+9;+3;+16;+0;+15;-1;>2:20"), () -> set(ran("+4;+2;+10;<2:4;-0;+200;+120")),
            () -> spoilt("+20;+5;+40;+13", 0, 5), () -> spoilt("+20;+5;+40;+13", 1), () -> spoilt("+5;+21;+8;+3", 0, 3),
            () -> packed(ran("+9;+9;+40;<0:1;<1:1;<2:5")), () -> packed(spoilt("+5;+21;+8;+3", 1)));
    }

    // ---- what it is

    static void filesOnTheDisk() {
        says(WHAT_IT_IS, "a disk of blocks, files of whole blocks and a tail");
        for (Maker disk : disks()) {
            for (int file = 0; file < 10; file++) {
                int size = sizeOf(disk.make(), file);
                if (size != NONE) {
                    TailBlocks x = disk.make();
                    due("whole blocks and the tail are the file", size, 16 * x.fileOf(file, 1) + x.fileOf(file, 2));
                }
            }
        }
        says(WHAT_IT_IS, "where each cell of a file is");
        for (Maker disk : disks()) {
            eachCellHasAPlaceOfItsOwn(disk);
        }
    }

    private static void eachCellHasAPlaceOfItsOwn(Maker disk) {
        Set<Integer> taken = new HashSet<>();
        int found = 0;
        for (int file = 0; file < 10; file++) {
            TailBlocks x = disk.make();
            int size = sizeOf(x, file);
            for (int cell = 0; cell < size; cell++) {
                int place = x.place(file, cell);
                if (place != NONE) {
                    found++;
                    taken.add(place);
                    int kind = x.blockOf(place / 16, 0);
                    due("the kind of the block", cell < 16 * x.fileOf(file, 1) ? 1 : 2, kind);
                }
            }
        }
        due("no two cells have one place", found, taken.size());
        due("cells that are not lost", disk.make().count(5), found);
    }

    static void blocksAddUp() {
        says(WHAT_IT_IS, "gaps and free blocks that add up");
        for (Maker disk : disks()) {
            TailBlocks x = disk.make();
            due("blocks", 24, x.count(1) + x.count(2) + x.count(3) + x.count(4));
            due("cells", 24 * 16, 16 * x.count(1) + 16 * x.count(4) + x.count(5) + x.count(6));
            due("cells of shared blocks", 16 * x.count(3), x.count(5) + x.count(6) - 16 * x.count(2));
            int tails = 0;
            int cells = 0;
            for (int block = 0; block < 24; block++) {
                tails += x.blockOf(block, 1);
                cells += x.blockOf(block, 2);
                boolean shared = x.blockOf(block, 0) == 2;
                due("a block with a tail is shared, block " + block, shared ? 1 : 0, x.blockOf(block, 1) > 0 ? 1 : 0);
            }
            due("cells of tails", cells, 16 * x.count(3) - x.count(6));
            due("no more tails than files", 1, tails <= x.count(0) ? 1 : 0);
        }
    }

    static void tailsThatGrow() {
        says(WHAT_IT_IS, "gaps of shared blocks chosen by two rules");
        due("the first one", 0, ran("+5;+2;+6;-0").ifPlaced(3));
        due("the shortest one", 13, set(ran("+5;+2;+6;-0")).ifPlaced(3));
        says(WHAT_IT_IS, "tails that grow in place, move on or become whole blocks");
        TailBlocks x = ran("+5;+4");
        due("in place", 0, x.grow(1, 7));
        due("moved on", 1, x.grow(0, 1));
        dueFile("moved on", x, 0, 6, 0, 6, 1, 0, 0, 2);
        due("a whole block", 1, x.grow(0, 10));
        dueFile("a whole block", x, 0, 16, 1, 0, NONE, NONE, 0, 2);
        says(WHAT_IT_IS, "files that are cut");
        due("its size then", 9, x.cut(0, 7));
        due("its tail is placed again", 3, x.fileOf(0, 6));
    }

    static void blocksThatTurnBad() {
        says(WHAT_IT_IS, "blocks that turn bad and what is lost by that");
        TailBlocks x = ran("+20;+5;+39");
        due("the block of three tails", 1, x.weakest());
        due("three files are broken by it", 3, x.spoil(1));
        due("broken files", 3, x.count(7));
        due("the whole blocks are left", 3 * 16, x.count(5));
        due("a lost cell", NONE, x.place(2, 38));
        due("a cell before it", 3 * 16 + 15, x.place(2, 31));
    }

    static void packingWhileIdle() {
        says(WHAT_IT_IS, "packing while idle");
        for (Maker disk : disks()) {
            TailBlocks x = packed(disk.make());
            due("nothing more is freed by packing again", 1, x.pack() <= 0 ? 1 : 0);
            due("no cell is lost", disk.make().count(5), x.count(5));
        }
        says(WHAT_IT_IS, "the fewest shared blocks that the tails need, told by sets and by trying");
        for (Maker disk : disks()) {
            TailBlocks x = disk.make();
            due("told by both", x.fewest(0), x.fewest(1));
            boolean lost = x.count(7) > 0;
            due("as many as there are, or fewer", 1, lost || x.fewest(0) <= x.count(3) ? 1 : 0);
        }
    }

    static void aFileMore() {
        says(WHAT_IT_IS, "what a file more would need");
        for (Maker disk : disks()) {
            int place = disk.make().ifPlaced(5);
            TailBlocks x = disk.make();
            int file = x.create(5);
            due("the place of its tail", file == NONE ? place : x.place(file, 0), place);
        }
        says(WHAT_IT_IS, "the greatest file that could come");
        for (Maker disk : disks()) {
            TailBlocks x = disk.make();
            int greatest = x.greatest();
            due("it comes", greatest == NONE ? 0 : 1, greatest != NONE && x.create(greatest) != NONE ? 1 : 0);
        }
    }

    static void textsAndStates() {
        says(WHAT_IT_IS, "files as texts with errors by place");
        due("no error", 9, typed("+20;>0:16").firstError());
        due("the place of one", 5, typed("+20;>a:16").firstError());
        says(WHAT_IT_IS, "snapshots and undo");
        TailBlocks x = ran("+20;+5");
        long before = x.digest();
        x.delete(0);
        due("undone", 1, x.undo());
        due("as before", before, x.digest());
        x.keep(1);
        x.delete(0);
        due("files of the snapshot", 2, x.goBack(1));
        due("as in the snapshot", 20, x.fileOf(0, 0));
    }

    // ---- 512 calls

    static void upToTheLastCall() {
        says(WHAT_IT_IS, "An object is used for at most 512 calls after it has been made");
        TailBlocks dearest = with(6, 5, 5, 5, 5, 5, 5, 5, 5, 2);
        long hash = dearest.digest();
        for (int call = 12; call < LAST_CALL; call++) {
            dearest.digest();
        }
        due("the dearest calls", hash, dearest.digest());
        TailBlocks moved = with(9);
        for (int call = 2; call < LAST_CALL; call += 2) {
            due("grown, call " + call, 1, moved.grow(0, 7));
            due("cut, call " + (call + 1), 9, moved.cut(0, 7));
        }
        due("placed", LAST_CALL / 2, moved.fileOf(0, 6));
        TailBlocks orders = new TailBlocks();
        for (int call = 1; call + 5 < LAST_CALL; call += 6) {
            type(orders, call % 12 == 1 ? "+0;+1" : "-1;-0");
            due("orders, up to call " + (call + 5), 2, orders.run());
        }
        due("saved states", 6, orders.count(11));
    }

    static void thrownUpToTheLastCall() {
        says(WHAT_IT_IS, "An object is used for at most 512 calls after it has been made");
        TailBlocks x = typed("+1");
        int thrown = 0;
        for (int call = 3; call < LAST_CALL; call++) {
            try {
                x.undo();
            } catch (IllegalStateException e) {
                thrown++;
            }
        }
        due("all calls but three throw", LAST_CALL - 3, thrown);
        due("the last one does not", 1, x.run());
    }

    static void afterTheLastCall() {
        says(WHAT_IT_IS, "what later calls answer is free");
        // LANGUAGE.md, rule 7, holds in any state: only exceptions of the face, also by then.
        for (int seed = 0; seed < 20; seed++) {
            Random random = new Random(seed);
            TailBlocks x = new TailBlocks();
            for (int call = 0; call < 5 * LAST_CALL; call++) {
                due("an exception of the machine by call " + call, 0, drawn(x, random));
            }
        }
    }

    /** 1 if something else is thrown than the face names. */
    private static int drawn(TailBlocks x, Random random) {
        int a = random.nextInt(12) == 0 ? random.nextInt() : random.nextInt(26) - 1;
        int b = random.nextInt(12) == 0 ? random.nextInt() : random.nextInt(26) - 1;
        try {
            drawnCall(x, random.nextInt(14), a, b);
        } catch (ArrayIndexOutOfBoundsException | StringIndexOutOfBoundsException e) {
            return 1;
        } catch (IndexOutOfBoundsException | IllegalArgumentException | IllegalStateException e) {
            return 0;
        } catch (RuntimeException e) {
            return 1;
        }
        return 0;
    }

    private static long drawnCall(TailBlocks x, int kind, int a, int b) {
        switch (kind) {
            case 0: return x.create(b < 20 ? b : 9 * a);
            case 1: return x.grow(a, b);
            case 2: return x.cut(a, b);
            case 3: return x.delete(a);
            case 4: return x.spoil(a);
            case 5: return x.heal(a);
            case 6: return x.pack();
            case 7: return x.set(a);
            case 8: return x.keep(a) + x.goBack(b);
            case 9: return x.undo();
            case 10: return x.append("+12;>0:<-".charAt(Math.floorMod(a, 9))) + x.firstError();
            case 11: return a > 20 ? x.clearBuffer() : x.run();
            case 12: return x.fileOf(a, b) + x.place(a, b) + x.ifGrown(a, b);
            default: return x.digest() + x.blockOf(a, b % 5) + x.count(b) + x.ifPlaced(a) + x.fewest(b);
        }
    }

    // ---- not promised

    static void whatIsFree() {
        says(NOT_PROMISED, "How the state is held inside the object is free, as are the speed of each call,"
            + " the text of toString and the behaviour of equals and hashCode.");
        long own = Arrays.stream(TailBlocks.class.getDeclaredMethods())
            .filter(m -> List.of("toString", "equals", "hashCode", "clone", "finalize").contains(m.getName())).count();
        due("methods of the class that the document does not ask for", 0, own);
    }

    static void objectsShareNothing() {
        says(NOT_PROMISED, "Use of one object from several threads at once is not promised to be safe.");
        TailBlocks one = new TailBlocks();
        TailBlocks other = new TailBlocks();
        String[] orders = {"+20;+5", ">1:7;+40", "<2:9;-0", "+3;+3;+3"};
        for (String text : orders) {
            type(one, text);
            type(other, "+8;" + text);
            one.run();
            one.keep(0);
            other.spoil(7);
            other.heal(7);
            other.pack();
            other.fewest(0);
            one.ifPacked();
            other.clearBuffer();
        }
        TailBlocks alone = new TailBlocks();
        for (String text : orders) {
            type(alone, text);
            alone.run();
            alone.keep(0);
        }
        due("one object beside another is as one alone", alone.digest(), one.digest());
    }

    static void nothingBeyond() {
        says(NOT_PROMISED, "Nothing is promised beyond the answers and state changes described above");
        for (Maker disk : disks()) {
            due("all looks leave the state as it is", disk.make().digest(), lookedAt(disk.make()).digest());
            TailBlocks x = lookedAt(disk.make());
            due("and what comes then", disk.make().create(21), x.create(21));
        }
        says(NOT_PROMISED, "and nothing about an object after its 512th call");
        due("the 512th call itself is promised", LAST_CALL - 11, with(new int[LAST_CALL - 1]).count(8));
    }

    private static TailBlocks lookedAt(TailBlocks x) {
        for (int what = 0; what < 12; what++) {
            x.count(what);
            x.blockOf(2 * what, what % 5);
            x.ifPlaced(1 + what);
        }
        for (int file = 0; file < 10; file++) {
            for (int cell = 0; cell < sizeOf(x, file); cell += 16) {
                x.place(file, cell);
                x.ifGrown(file, 1 + cell);
                x.fileOf(file, cell % 7);
            }
        }
        x.greatest();
        x.fewest(0);
        x.fewest(1);
        x.ifPacked();
        x.weakest();
        x.usedShare();
        x.firstError();
        return x;
    }
}
