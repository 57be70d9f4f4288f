/** Tails of small files packed into blocks that they share; ../shared/DOC.md says what each method promises. */
public final class TailBlocks {
    public static final int NONE = -1;

    private static final int BLOCKS = 24;
    private static final int CELLS = 16;
    private static final int ALL_TAKEN = (1 << CELLS) - 1;
    private static final int MAX_FILES = 10;
    private static final int MAX_SIZE = 200;
    private static final int MAX_TEXT = 60;
    private static final int MAX_SAVED = 6;
    private static final int SLOTS = 2;

    private static final int FREE = 0;
    private static final int WHOLE = 1;
    private static final int SHARED = 2;
    private static final int BAD = 3;

    private static final int FIRST_GAP = 0;
    private static final int SHORTEST_GAP = 1;

    private static final int LAST_FILE_PROPERTY = 6;
    private static final int LAST_BLOCK_PROPERTY = 4;
    private static final int LAST_COUNT = 11;

    private final Disk disk = new Disk();
    private final History history = new History();
    private final Disk[] slots = new Disk[SLOTS];
    private final Text text = new Text();
    private final Orders orders = new Orders();
    private final Packer packer = new Packer();
    private final Fewest bins = new Fewest();

    public TailBlocks() {
    }

    // ---- files

    public int create(int size) throws IllegalArgumentException {
        checkArgument(size, 0, MAX_SIZE);
        history.store(disk);
        return disk.addFile(size);
    }

    public int grow(int file, int cells) throws IndexOutOfBoundsException, IllegalArgumentException {
        checkFile(file);
        checkArgument(cells, 1, MAX_SIZE);
        history.store(disk);
        return disk.extend(file, cells);
    }

    public int cut(int file, int cells) throws IndexOutOfBoundsException, IllegalArgumentException {
        checkFile(file);
        checkArgument(cells, 1, MAX_SIZE);
        history.store(disk);
        return disk.shorten(file, cells);
    }

    public int delete(int file) throws IndexOutOfBoundsException {
        checkFile(file);
        history.store(disk);
        return disk.removeFile(file);
    }

    // ---- blocks

    public int spoil(int block) throws IndexOutOfBoundsException, IllegalStateException {
        checkBlock(block);
        if (disk.kindOf(block) == BAD) {
            throw new IllegalStateException("the block is bad already");
        }
        history.store(disk);
        return disk.turnBad(block);
    }

    public int heal(int block) throws IndexOutOfBoundsException, IllegalStateException {
        checkBlock(block);
        if (disk.kindOf(block) != BAD) {
            throw new IllegalStateException("the block is not bad");
        }
        if (disk.isHeld(block)) {
            throw new IllegalStateException("a broken file has something there");
        }
        history.store(disk);
        disk.turnFree(block);
        return disk.blocksOf(BAD);
    }

    public int pack() {
        history.store(disk);
        int freed = packer.plan(disk);
        if (freed != NONE) {
            packer.carryOut(disk);
        }
        return freed;
    }

    public int set(int value) throws IllegalArgumentException {
        checkArgument(value, FIRST_GAP, SHORTEST_GAP);
        history.store(disk);
        int previous = disk.setting;
        disk.setting = value;
        return previous;
    }

    // ---- texts, snapshots

    public int append(int code) throws IllegalArgumentException, IllegalStateException {
        checkArgument(code, 33, 126);
        if (text.isFull()) {
            throw new IllegalStateException("the buffer is full");
        }
        text.add(code);
        return text.length();
    }

    public int clearBuffer() {
        int length = text.length();
        text.empty();
        return length;
    }

    public int firstError() {
        return orders.readable(text);
    }

    public int run() throws IllegalArgumentException {
        if (orders.readable(text) < text.length() || !orders.canEndHere()) {
            throw new IllegalArgumentException("the buffer tells no files");
        }
        history.store(disk);
        int done = obeyAll();
        text.empty();
        return done;
    }

    public int keep(int slot) throws IllegalArgumentException {
        checkArgument(slot, 0, SLOTS - 1);
        if (slots[slot] == null) {
            slots[slot] = new Disk();
        }
        slots[slot].copyFrom(disk);
        return disk.files();
    }

    public int goBack(int slot) throws IllegalArgumentException, IllegalStateException {
        checkArgument(slot, 0, SLOTS - 1);
        if (slots[slot] == null) {
            throw new IllegalStateException("the slot is empty");
        }
        history.store(disk);
        disk.copyFrom(slots[slot]);
        return disk.files();
    }

    public int undo() throws IllegalStateException {
        if (history.held() == 0) {
            throw new IllegalStateException("no state is saved");
        }
        history.restore(disk);
        return history.held();
    }

    // ---- looks; nothing is changed

    public int fileOf(int file, int what) throws IndexOutOfBoundsException, IllegalArgumentException {
        checkFile(file);
        checkArgument(what, 0, LAST_FILE_PROPERTY);
        return disk.fileProperty(file, what);
    }

    public int place(int file, int cell) throws IndexOutOfBoundsException {
        checkFile(file);
        if (cell < 0 || cell >= disk.sizeOf(file)) {
            throw new IndexOutOfBoundsException("the file has no such cell");
        }
        return disk.whereIs(file, cell);
    }

    public int blockOf(int block, int what) throws IndexOutOfBoundsException, IllegalArgumentException {
        checkBlock(block);
        checkArgument(what, 0, LAST_BLOCK_PROPERTY);
        return disk.blockProperty(block, what);
    }

    public int count(int what) throws IllegalArgumentException {
        checkArgument(what, 0, LAST_COUNT);
        switch (what) {
            case 0: return disk.files();
            case 1: return disk.blocksOf(FREE);
            case 2: return disk.blocksOf(WHOLE);
            case 3: return disk.blocksOf(SHARED);
            case 4: return disk.blocksOf(BAD);
            case 5: return CELLS * disk.blocksOf(WHOLE) + disk.sharedTailCells();
            case 6: return CELLS * disk.blocksOf(SHARED) - disk.sharedTailCells();
            case 7: return disk.brokenFiles();
            case 8: return disk.refused;
            case 9: return disk.packings;
            case 10: return disk.setting;
            default: return history.held();
        }
    }

    // ---- what would be; nothing is changed

    public int ifPlaced(int cells) throws IllegalArgumentException {
        checkArgument(cells, 1, CELLS - 1);
        return disk.placeFor(cells);
    }

    public int ifGrown(int file, int cells) throws IndexOutOfBoundsException, IllegalArgumentException {
        checkFile(file);
        checkArgument(cells, 1, MAX_SIZE);
        return disk.growthOf(file, cells);
    }

    public int greatest() {
        // Not every size below one that fits would fit too, so no search by halves.
        for (int size = MAX_SIZE; size >= 0; size--) {
            if (disk.hasRoomFor(size)) {
                return size;
            }
        }
        return NONE;
    }

    public int fewest(int what) throws IllegalArgumentException {
        checkArgument(what, 0, 1);
        return what == 0 ? bins.bySets(disk) : bins.byTrying(disk);
    }

    public int ifPacked() {
        return packer.plan(disk);
    }

    public int weakest() {
        int weakest = NONE;
        int most = 0;
        for (int block = 0; block < BLOCKS; block++) {
            int hurt = disk.kindOf(block) == BAD ? 0 : disk.soundFilesIn(block);
            if (hurt > most) {
                most = hurt;
                weakest = block;
            }
        }
        return weakest;
    }

    public double usedShare() {
        int cells = CELLS * (disk.blocksOf(WHOLE) + disk.blocksOf(SHARED));
        return cells == 0 ? 1.0 : (double) count(5) / (double) cells;
    }

    public long digest() {
        long hash = 3499;
        for (int what = 0; what <= LAST_COUNT; what++) {
            hash = mix(hash, count(what));
        }
        for (int file = 0; file < MAX_FILES; file++) {
            if (disk.exists(file)) {
                hash = mixFile(hash, file);
            }
        }
        for (int block = 0; block < BLOCKS; block++) {
            for (int what = 0; what <= LAST_BLOCK_PROPERTY; what++) {
                hash = mix(hash, disk.blockProperty(block, what));
            }
        }
        return mixText(mixOutlook(hash));
    }

    private long mixFile(long before, int file) {
        long hash = mix(before, file);
        for (int what = 0; what <= LAST_FILE_PROPERTY; what++) {
            hash = mix(hash, disk.fileProperty(file, what));
        }
        int size = disk.sizeOf(file);
        if (size > 0) {
            hash = mix(hash, disk.whereIs(file, 0));
            hash = mix(hash, disk.whereIs(file, size - 1));
        }
        hash = mix(hash, disk.growthOf(file, 1));
        return mix(hash, disk.growthOf(file, 16));
    }

    private long mixOutlook(long before) {
        long hash = mix(before, disk.placeFor(1));
        hash = mix(hash, disk.placeFor(5));
        hash = mix(hash, disk.placeFor(15));
        hash = mix(hash, greatest());
        hash = mix(hash, fewest(0));
        hash = mix(hash, fewest(1));
        hash = mix(hash, ifPacked());
        hash = mix(hash, weakest());
        return mix(hash, bitsOf(usedShare()));
    }

    private long mixText(long before) {
        long hash = before;
        for (int slot = 0; slot < SLOTS; slot++) {
            hash = mix(hash, slots[slot] == null ? 0 : 1);
        }
        hash = mix(hash, text.length());
        for (int at = 0; at < text.length(); at++) {
            hash = mix(hash, text.codeAt(at));
        }
        return hash;
    }

    private static long mix(long hash, long value) {
        return 31 * hash + value;
    }

    /** The bits of a double, as Double.doubleToLongBits gives them, which LANGUAGE.md leaves out; for 0 to 1 alone. */
    private static long bitsOf(double share) {
        if (share <= 0.0) {
            return 0;
        }
        double scaled = share;
        int exponent = 1023;
        while (scaled < 1.0 && exponent > 1) {
            scaled = scaled * 2.0;
            exponent--;
        }
        return ((long) exponent << 52) + (long) ((scaled - 1.0) * (double) (1L << 52));
    }

    private int obeyAll() {
        int done = 0;
        orders.begin();
        for (int at = 0; at <= text.length(); at++) {
            int code = text.codeAt(at);
            if (code == NONE || code == ';') {
                if (!obey()) {
                    return done;
                }
                done++;
            }
            orders.take(code);
        }
        return done;
    }

    private boolean obey() {
        if (orders.sign == '+') {
            return disk.addFile(orders.number) != NONE;
        }
        if (!disk.exists(orders.file)) {
            return false;
        }
        if (orders.sign == '>') {
            return disk.extend(orders.file, orders.number) != NONE;
        }
        if (orders.sign == '<') {
            return disk.shorten(orders.file, orders.number) != NONE;
        }
        disk.removeFile(orders.file);
        return true;
    }

    private void checkFile(int file) {
        if (!disk.exists(file)) {
            throw new IndexOutOfBoundsException("there is no such file");
        }
    }

    private static void checkBlock(int block) {
        if (!isBlock(block)) {
            throw new IndexOutOfBoundsException("there is no such block");
        }
    }

    private static void checkArgument(int value, int lowest, int highest) {
        if (value < lowest || value > highest) {
            throw new IllegalArgumentException("an argument is out of range");
        }
    }

    private static boolean isBlock(int block) {
        return block >= 0 && block < BLOCKS;
    }

    /** All that a snapshot holds: the blocks, the files, what is counted so far, and the setting. */
    private static final class Disk {
        private final int[] kinds = new int[BLOCKS];
        /** The file whose whole block it is, or was when it turned bad. */
        private final int[] owners = new int[BLOCKS];
        /** Which of its file's whole blocks it is, from 0. */
        private final int[] ranks = new int[BLOCKS];
        /** NONE where there is no file. */
        private final int[] sizes = new int[MAX_FILES];
        private final int[] tailBlocks = new int[MAX_FILES];
        private final int[] tailStarts = new int[MAX_FILES];
        private final int[] broken = new int[MAX_FILES];
        private final int[] placings = new int[MAX_FILES];
        private int refused = 0;
        private int packings = 0;
        private int setting = FIRST_GAP;

        Disk() {
            for (int block = 0; block < BLOCKS; block++) {
                owners[block] = NONE;
            }
            for (int file = 0; file < MAX_FILES; file++) {
                sizes[file] = NONE;
                tailBlocks[file] = NONE;
                tailStarts[file] = NONE;
            }
        }

        void copyFrom(Disk other) {
            if (other == null) {
                return;
            }
            for (int block = 0; block < BLOCKS; block++) {
                kinds[block] = other.kinds[block];
                owners[block] = other.owners[block];
                ranks[block] = other.ranks[block];
            }
            for (int file = 0; file < MAX_FILES; file++) {
                sizes[file] = other.sizes[file];
                tailBlocks[file] = other.tailBlocks[file];
                tailStarts[file] = other.tailStarts[file];
                broken[file] = other.broken[file];
                placings[file] = other.placings[file];
            }
            refused = other.refused;
            packings = other.packings;
            setting = other.setting;
        }

        boolean exists(int file) {
            return file >= 0 && file < MAX_FILES && sizes[file] != NONE;
        }

        int files() {
            int files = 0;
            for (int file = 0; file < MAX_FILES; file++) {
                files += sizes[file] == NONE ? 0 : 1;
            }
            return files;
        }

        int brokenFiles() {
            int files = 0;
            for (int file = 0; file < MAX_FILES; file++) {
                files += broken[file];
            }
            return files;
        }

        boolean isBroken(int file) {
            return exists(file) && broken[file] == 1;
        }

        int sizeOf(int file) {
            return exists(file) ? sizes[file] : 0;
        }

        int tailCells(int file) {
            return sizeOf(file) % CELLS;
        }

        int kindOf(int block) {
            return isBlock(block) ? kinds[block] : BAD;
        }

        int blocksOf(int kind) {
            int blocks = 0;
            for (int block = 0; block < BLOCKS; block++) {
                blocks += kinds[block] == kind ? 1 : 0;
            }
            return blocks;
        }

        int sharedTailCells() {
            int cells = 0;
            for (int block = 0; block < BLOCKS; block++) {
                cells += tailCellsIn(block);
            }
            return cells;
        }

        int fileProperty(int file, int what) {
            if (!exists(file)) {
                return NONE;
            }
            switch (what) {
                case 0: return sizes[file];
                case 1: return sizes[file] / CELLS;
                case 2: return sizes[file] % CELLS;
                case 3: return tailBlocks[file];
                case 4: return tailStarts[file];
                case 5: return broken[file];
                default: return placings[file];
            }
        }

        int blockProperty(int block, int what) {
            if (!isBlock(block)) {
                return NONE;
            }
            switch (what) {
                case 0: return kinds[block];
                case 1: return tailsIn(block);
                case 2: return tailCellsIn(block);
                case 3: return kinds[block] == SHARED ? longestGap(takenCells(block, NONE)) : 0;
                default: return kinds[block] == WHOLE ? owners[block] : NONE;
            }
        }

        int tailsIn(int block) {
            if (kindOf(block) != SHARED) {
                return 0;
            }
            int tails = 0;
            for (int file = 0; file < MAX_FILES; file++) {
                tails += tailBlocks[file] == block ? 1 : 0;
            }
            return tails;
        }

        int tailCellsIn(int block) {
            return kindOf(block) == SHARED ? Integer.bitCount(takenCells(block, NONE)) : 0;
        }

        /** CELLS times the block, and the cell there; NONE in a bad block. */
        int whereIs(int file, int cell) {
            if (!exists(file) || cell < 0 || cell >= sizes[file]) {
                return NONE;
            }
            if (cell / CELLS == sizes[file] / CELLS) {
                int block = tailBlocks[file];
                return kindOf(block) == BAD ? NONE : CELLS * block + tailStarts[file] + cell % CELLS;
            }
            for (int block = 0; block < BLOCKS; block++) {
                if (owners[block] == file && ranks[block] == cell / CELLS) {
                    return kinds[block] == BAD ? NONE : CELLS * block + cell % CELLS;
                }
            }
            return NONE;
        }

        boolean hasSomething(int file, int block) {
            return exists(file) && isBlock(block) && (owners[block] == file || tailBlocks[file] == block);
        }

        boolean isHeld(int block) {
            for (int file = 0; file < MAX_FILES; file++) {
                if (hasSomething(file, block)) {
                    return true;
                }
            }
            return false;
        }

        int soundFilesIn(int block) {
            int files = 0;
            for (int file = 0; file < MAX_FILES; file++) {
                files += hasSomething(file, block) && broken[file] == 0 ? 1 : 0;
            }
            return files;
        }

        /** A bit for each cell that a tail takes there, as if the file left out had no tail. */
        int takenCells(int block, int leftOut) {
            int taken = 0;
            for (int file = 0; file < MAX_FILES; file++) {
                if (tailBlocks[file] == block && file != leftOut) {
                    taken |= ((1 << sizes[file] % CELLS) - 1) << tailStarts[file];
                }
            }
            return taken;
        }

        static boolean isTaken(int taken, int cell) {
            return (taken >> cell & 1) == 1;
        }

        static int gapFrom(int taken, int cell) {
            int length = 0;
            while (cell + length < CELLS && !isTaken(taken, cell + length)) {
                length++;
            }
            return length;
        }

        static int longestGap(int taken) {
            int longest = 0;
            int length = 0;
            for (int cell = 0; cell < CELLS; cell++) {
                length = isTaken(taken, cell) ? 0 : length + 1;
                longest = Math.max(longest, length);
            }
            return longest;
        }

        int lowestFree() {
            for (int block = 0; block < BLOCKS; block++) {
                if (kinds[block] == FREE) {
                    return block;
                }
            }
            return NONE;
        }

        /** CELLS times the block, and the first cell there; NONE if there is no place. */
        int placeFor(int cells) {
            int chosen = NONE;
            int chosenLength = CELLS + 1;
            for (int block = 0; block < BLOCKS; block++) {
                int taken = kinds[block] == SHARED ? takenCells(block, NONE) : ALL_TAKEN;
                for (int cell = 0; cell < CELLS; cell++) {
                    boolean begins = cell == 0 || isTaken(taken, cell - 1);
                    int length = begins ? gapFrom(taken, cell) : 0;
                    if (length >= cells && length < chosenLength) {
                        chosen = CELLS * block + cell;
                        chosenLength = length;
                        if (setting == FIRST_GAP) {
                            return chosen;
                        }
                    }
                }
            }
            int free = chosen == NONE ? lowestFree() : NONE;
            return free == NONE ? chosen : CELLS * free;
        }

        /** Whether so many whole blocks more and then a tail find room, once the file has no tail. */
        boolean isEnough(int wholes, int tail, int file) {
            int free = 0;
            int longest = 0;
            for (int block = 0; block < BLOCKS; block++) {
                int taken = kinds[block] == SHARED ? takenCells(block, file) : 0;
                if (taken != 0) {
                    longest = Math.max(longest, longestGap(taken));
                } else if (kinds[block] == FREE || kinds[block] == SHARED) {
                    free++;
                }
            }
            return free > wholes || free == wholes && tail <= longest;
        }

        boolean hasRoomFor(int size) {
            return lowestNumber() != NONE && isEnough(size / CELLS, size % CELLS, NONE);
        }

        int lowestNumber() {
            for (int file = 0; file < MAX_FILES; file++) {
                if (sizes[file] == NONE) {
                    return file;
                }
            }
            return NONE;
        }

        /** What growing would return: 0 in place, 1 otherwise, NONE if it is refused. */
        int growthOf(int file, int cells) {
            if (!exists(file) || broken[file] == 1 || sizes[file] + cells > MAX_SIZE) {
                return NONE;
            }
            int grown = sizes[file] + cells;
            int wholes = grown / CELLS - sizes[file] / CELLS;
            if (wholes == 0 && cellsBehindTail(file) >= cells) {
                return 0;
            }
            return isEnough(wholes, grown % CELLS, file) ? 1 : NONE;
        }

        int cellsBehindTail(int file) {
            if (!exists(file) || tailBlocks[file] == NONE) {
                return 0;
            }
            int taken = takenCells(tailBlocks[file], NONE);
            return gapFrom(taken, tailStarts[file] + sizes[file] % CELLS);
        }

        /** The file's number; NONE if it is refused. */
        int addFile(int size) {
            if (!hasRoomFor(size)) {
                refused++;
                return NONE;
            }
            int file = lowestNumber();
            if (file >= 0 && file < MAX_FILES) {
                sizes[file] = 0;
                rebuild(file, size);
            }
            return file;
        }

        int extend(int file, int cells) {
            int growth = growthOf(file, cells);
            if (growth == NONE || !exists(file)) {
                refused++;
            } else if (growth == 0) {
                sizes[file] += cells;
            } else {
                rebuild(file, sizes[file] + cells);
            }
            return growth;
        }

        /** The file's size then; NONE if it is refused. */
        int shorten(int file, int cells) {
            if (!exists(file) || broken[file] == 1 || sizes[file] < cells) {
                refused++;
                return NONE;
            }
            int size = sizes[file] - cells;
            if (size / CELLS != sizes[file] / CELLS) {
                rebuild(file, size);
                return size;
            }
            if (size % CELLS == 0) {
                dropTail(file);
            }
            sizes[file] = size;
            return size;
        }

        /** How many blocks become free. */
        int removeFile(int file) {
            if (!exists(file)) {
                return 0;
            }
            int freed = dropTail(file) + dropWholes(file, 0);
            sizes[file] = NONE;
            broken[file] = 0;
            placings[file] = 0;
            return freed;
        }

        /** Takes the tail away, brings the whole blocks to the new size, and places the new tail. */
        void rebuild(int file, int size) {
            if (!exists(file)) {
                return;
            }
            dropTail(file);
            for (int rank = sizes[file] / CELLS; rank < size / CELLS; rank++) {
                takeWhole(file, rank);
            }
            dropWholes(file, size / CELLS);
            sizes[file] = size;
            int place = size % CELLS == 0 ? NONE : placeFor(size % CELLS);
            if (place != NONE) {
                putTail(file, place / CELLS, place % CELLS);
            }
        }

        void takeWhole(int file, int rank) {
            int block = lowestFree();
            if (isBlock(block)) {
                kinds[block] = WHOLE;
                owners[block] = file;
                ranks[block] = rank;
            }
        }

        /** Gives up the whole blocks from that rank on; how many of them become free. */
        int dropWholes(int file, int left) {
            int freed = 0;
            for (int block = 0; block < BLOCKS; block++) {
                if (owners[block] == file && ranks[block] >= left) {
                    owners[block] = NONE;
                    ranks[block] = 0;
                    if (kinds[block] == WHOLE) {
                        kinds[block] = FREE;
                        freed++;
                    }
                }
            }
            return freed;
        }

        void putTail(int file, int block, int start) {
            if (exists(file) && isBlock(block)) {
                tailBlocks[file] = block;
                tailStarts[file] = start;
                kinds[block] = SHARED;
                placings[file]++;
            }
        }

        /** How many blocks become free, 0 or 1. */
        int dropTail(int file) {
            if (!exists(file)) {
                return 0;
            }
            int block = tailBlocks[file];
            tailBlocks[file] = NONE;
            tailStarts[file] = NONE;
            return freeIfEmpty(block);
        }

        int freeIfEmpty(int block) {
            if (!isBlock(block) || kinds[block] != SHARED || takenCells(block, NONE) != 0) {
                return 0;
            }
            kinds[block] = FREE;
            return 1;
        }

        void turnFree(int block) {
            if (isBlock(block)) {
                kinds[block] = FREE;
            }
        }

        /** How many files become broken by it that were not. */
        int turnBad(int block) {
            if (!isBlock(block)) {
                return 0;
            }
            int files = 0;
            for (int file = 0; file < MAX_FILES; file++) {
                if (hasSomething(file, block) && broken[file] == 0) {
                    broken[file] = 1;
                    files++;
                }
            }
            kinds[block] = BAD;
            return files;
        }

        /** Whether packing may put tails there: it is shared, and no broken file has its tail there. */
        boolean takesPacking(int block) {
            for (int file = 0; file < MAX_FILES; file++) {
                if (broken[file] == 1 && tailBlocks[file] == block) {
                    return false;
                }
            }
            return kindOf(block) == SHARED;
        }
    }

    /** The tails of the files that are not broken, by descending lengths, of several the lowest file first. */
    private static final class Tails {
        private final int[] files = new int[MAX_FILES];
        private final int[] lengths = new int[MAX_FILES];
        private int number = 0;

        void collect(Disk disk) {
            number = 0;
            for (int file = 0; file < MAX_FILES; file++) {
                int length = disk.isBroken(file) ? 0 : disk.tailCells(file);
                if (length > 0) {
                    insert(file, length);
                }
            }
        }

        void insert(int file, int length) {
            if (number < 0 || number >= MAX_FILES) {
                return;
            }
            int at = number;
            while (at > 0 && lengths[at - 1] < length) {
                files[at] = files[at - 1];
                lengths[at] = lengths[at - 1];
                at--;
            }
            files[at] = file;
            lengths[at] = length;
            number++;
        }

        int cells() {
            int cells = 0;
            for (int at = 0; at < number && at < MAX_FILES; at++) {
                cells += lengths[at];
            }
            return cells;
        }
    }

    /** Works out a packing before anything is changed, as one that fails changes nothing at all. */
    private static final class Packer {
        private final Tails tails = new Tails();
        private final int[] newBlocks = new int[MAX_FILES];
        private final int[] newStarts = new int[MAX_FILES];
        private final int[] filled = new int[BLOCKS];

        /** How many blocks become free; NONE if a tail finds no block. */
        int plan(Disk disk) {
            tails.collect(disk);
            for (int block = 0; block < BLOCKS; block++) {
                filled[block] = disk.takesPacking(block) ? 0 : CELLS;
            }
            for (int at = 0; at < tails.number && at < MAX_FILES; at++) {
                int block = firstWithRoom(tails.lengths[at]);
                if (!isBlock(block)) {
                    return NONE;
                }
                newBlocks[at] = block;
                newStarts[at] = filled[block];
                filled[block] += tails.lengths[at];
            }
            return emptyBlocks();
        }

        int firstWithRoom(int length) {
            for (int block = 0; block < BLOCKS; block++) {
                if (filled[block] + length <= CELLS) {
                    return block;
                }
            }
            return NONE;
        }

        int emptyBlocks() {
            int empty = 0;
            for (int block = 0; block < BLOCKS; block++) {
                empty += filled[block] == 0 ? 1 : 0;
            }
            return empty;
        }

        /** Does what was planned last, for the same disk. */
        void carryOut(Disk disk) {
            for (int at = 0; at < tails.number && at < MAX_FILES; at++) {
                disk.putTail(tails.files[at], newBlocks[at], newStarts[at]);
            }
            for (int block = 0; block < BLOCKS; block++) {
                disk.freeIfEmpty(block);
            }
            disk.packings++;
        }
    }

    /** Finds the fewest blocks for the tails, in two ways that must agree. */
    private static final class Fewest {
        private static final int SETS = 1 << MAX_FILES;

        private final Tails tails = new Tails();
        private final int[] loads = new int[MAX_FILES];
        private final int[] setBlocks = new int[SETS];
        private final int[] setLoads = new int[SETS];

        /** Each set of tails is told by its sets with one tail less: fewest blocks first, then the emptiest last one. */
        int bySets(Disk disk) {
            tails.collect(disk);
            // Full at first, so that the first tail opens a block.
            setBlocks[0] = 0;
            setLoads[0] = CELLS;
            int all = (1 << tails.number) - 1;
            for (int set = 1; set <= all && set < SETS; set++) {
                solveSet(set);
            }
            return all >= 0 && all < SETS ? setBlocks[all] : NONE;
        }

        void solveSet(int set) {
            if (set <= 0 || set >= SETS) {
                return;
            }
            setBlocks[set] = MAX_FILES + 1;
            setLoads[set] = CELLS;
            for (int at = 0; at < MAX_FILES; at++) {
                if ((set >> at & 1) == 1) {
                    int rest = set - (1 << at);
                    boolean fits = setLoads[rest] + tails.lengths[at] <= CELLS;
                    int blocks = fits ? setBlocks[rest] : setBlocks[rest] + 1;
                    int load = fits ? setLoads[rest] + tails.lengths[at] : tails.lengths[at];
                    if (blocks < setBlocks[set] || blocks == setBlocks[set] && load < setLoads[set]) {
                        setBlocks[set] = blocks;
                        setLoads[set] = load;
                    }
                }
            }
        }

        int byTrying(Disk disk) {
            tails.collect(disk);
            for (int block = 0; block < MAX_FILES; block++) {
                loads[block] = 0;
            }
            int least = (tails.cells() + CELLS - 1) / CELLS;
            return tryTail(tails, loads, 0, 0, tails.number, least);
        }

        /** The best of what is known and of all ways to put this tail and those behind it; no way needs less than least. */
        private static int tryTail(Tails tails, int[] loads, int at, int used, int known, int least) {
            if (used >= known || known <= least) {
                return known;
            }
            if (at >= tails.number || at >= MAX_FILES) {
                return used;
            }
            int best = known;
            for (int block = 0; block <= used && block < MAX_FILES && block < loads.length; block++) {
                if (loads[block] + tails.lengths[at] <= CELLS) {
                    loads[block] += tails.lengths[at];
                    int nowUsed = block == used ? used + 1 : used;
                    best = tryTail(tails, loads, at + 1, nowUsed, best, least);
                    loads[block] -= tails.lengths[at];
                }
            }
            return best;
        }
    }

    /** The buffer. */
    private static final class Text {
        private final int[] codes = new int[MAX_TEXT];
        private int length = 0;

        int length() {
            return length;
        }

        boolean isFull() {
            return length >= MAX_TEXT;
        }

        void add(int code) {
            if (length >= 0 && length < MAX_TEXT) {
                codes[length] = code;
                length++;
            }
        }

        void empty() {
            length = 0;
        }

        /** NONE behind the last character. */
        int codeAt(int at) {
            return at >= 0 && at < length && at < MAX_TEXT ? codes[at] : NONE;
        }
    }

    /** Reads orders character by character. */
    private static final class Orders {
        private static final int SIGN = 0;
        private static final int FILE = 1;
        private static final int COLON = 2;
        private static final int FIRST_DIGIT = 3;
        private static final int MORE_DIGITS = 4;
        private static final int SEMICOLON = 5;

        /** What may come next. */
        private int due = SIGN;
        private int sign = 0;
        private int file = 0;
        private int number = 0;

        void begin() {
            due = SIGN;
        }

        /** How many characters can be read before the first syntax error. */
        int readable(Text text) {
            begin();
            for (int at = 0; at < text.length(); at++) {
                if (!take(text.codeAt(at))) {
                    return at;
                }
            }
            return text.length();
        }

        boolean canEndHere() {
            return due == MORE_DIGITS || due == SEMICOLON;
        }

        /** Whether the character may come here; if so, it is read. */
        boolean take(int code) {
            switch (due) {
                case SIGN: return takeSign(code);
                case FILE: return takeFile(code);
                case COLON: return takeColon(code);
                case FIRST_DIGIT: return takeFirstDigit(code);
                case MORE_DIGITS: return code == ';' ? takeSemicolon(code) : takeDigit(code);
                default: return takeSemicolon(code);
            }
        }

        boolean takeSign(int code) {
            if (code != '+' && code != '>' && code != '<' && code != '-') {
                return false;
            }
            sign = code;
            due = code == '+' ? FIRST_DIGIT : FILE;
            return true;
        }

        boolean takeFile(int code) {
            if (!isDigit(code)) {
                return false;
            }
            file = code - '0';
            due = sign == '-' ? SEMICOLON : COLON;
            return true;
        }

        boolean takeColon(int code) {
            if (code != ':') {
                return false;
            }
            due = FIRST_DIGIT;
            return true;
        }

        boolean takeFirstDigit(int code) {
            if (!isDigit(code) || code == '0' && sign != '+') {
                return false;
            }
            number = code - '0';
            due = MORE_DIGITS;
            return true;
        }

        boolean takeDigit(int code) {
            // A number that is 0 so far has a leading zero with any digit more.
            if (!isDigit(code) || number == 0 || 10 * number + code - '0' > MAX_SIZE) {
                return false;
            }
            number = 10 * number + code - '0';
            return true;
        }

        boolean takeSemicolon(int code) {
            if (code != ';') {
                return false;
            }
            due = SIGN;
            return true;
        }

        static boolean isDigit(int code) {
            return code >= '0' && code <= '9';
        }
    }

    /** The saved states, the oldest one first. */
    private static final class History {
        private final Disk[] states = new Disk[MAX_SAVED];
        private int held = 0;

        History() {
            for (int at = 0; at < MAX_SAVED; at++) {
                states[at] = new Disk();
            }
        }

        int held() {
            return held;
        }

        void store(Disk disk) {
            if (held >= MAX_SAVED) {
                dropOldest();
            }
            if (held >= 0 && held < MAX_SAVED && states[held] != null) {
                states[held].copyFrom(disk);
                held++;
            }
        }

        void dropOldest() {
            Disk oldest = states[0];
            for (int at = 1; at < MAX_SAVED; at++) {
                states[at - 1] = states[at];
            }
            // Its rows are used again for the next state.
            states[MAX_SAVED - 1] = oldest;
            held--;
        }

        void restore(Disk disk) {
            if (held > 0 && held <= MAX_SAVED) {
                held--;
                disk.copyFrom(states[held]);
            }
        }
    }
}
