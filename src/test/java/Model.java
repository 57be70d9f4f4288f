import java.util.ArrayList;
import java.util.List;
import java.util.regex.Matcher;
import java.util.regex.Pattern;

/**
 * The document once more, told another way: a grid of cells, lists of whole blocks, refusals found by trying on a
 * copy, texts by a regular expression. Slow, and for tests alone.
 */
final class Model {
    static final int BLOCKS = 24;
    static final int CELLS = 16;

    private static final String SIZE = "(?:0|1[0-9]{0,2}|[2-9][0-9]?|200)";
    private static final String ADDED = "(?:1[0-9]{0,2}|[2-9][0-9]?|200)";
    private static final String ORDER = "(?:\\+" + SIZE + "|[><][0-9]:" + ADDED + "|-[0-9])";
    private static final Pattern TEXT = Pattern.compile(ORDER + "(?:;" + ORDER + ")*");

    static final class Refused extends Exception {
    }

    private static final class File {
        int size;
        List<Integer> wholes = new ArrayList<>();
        int tailBlock = -1;
        int tailStart = -1;
        boolean broken;
        int placed;

        File copy() {
            File f = new File();
            f.size = size;
            f.wholes = new ArrayList<>(wholes);
            f.tailBlock = tailBlock;
            f.tailStart = tailStart;
            f.broken = broken;
            f.placed = placed;
            return f;
        }
    }

    /** The file whose tail takes the cell, or -1. */
    private int[][] grid = new int[BLOCKS][CELLS];
    private int[] kind = new int[BLOCKS];
    private File[] files = new File[10];
    private int refused;
    private int packings;
    private int setting;

    private StringBuilder buffer = new StringBuilder();
    private Model[] slots = new Model[2];
    private List<Model> saved = new ArrayList<>();

    Model() {
        for (int[] row : grid) {
            java.util.Arrays.fill(row, -1);
        }
    }

    private Model copy() {
        Model m = new Model();
        m.take(this);
        return m;
    }

    private void take(Model m) {
        for (int b = 0; b < BLOCKS; b++) {
            grid[b] = m.grid[b].clone();
        }
        kind = m.kind.clone();
        for (int f = 0; f < 10; f++) {
            files[f] = m.files[f] == null ? null : m.files[f].copy();
        }
        refused = m.refused;
        packings = m.packings;
        setting = m.setting;
    }

    private void save() {
        saved.add(copy());
        if (saved.size() > 6) {
            saved.remove(0);
        }
    }

    private void needFile(int f) {
        if (f < 0 || f > 9 || files[f] == null) {
            throw new IndexOutOfBoundsException();
        }
    }

    private static void need(boolean right) {
        if (!right) {
            throw new IllegalArgumentException();
        }
    }

    // ---- what happens on the disk

    private int takeFree() throws Refused {
        for (int b = 0; b < BLOCKS; b++) {
            if (kind[b] == 0) {
                return b;
            }
        }
        throw new Refused();
    }

    private int where(int cells) throws Refused {
        List<int[]> gaps = new ArrayList<>();
        for (int b = 0; b < BLOCKS; b++) {
            if (kind[b] == 2) {
                gaps.addAll(gapsOf(b));
            }
        }
        gaps.removeIf(gap -> gap[1] < cells);
        if (gaps.isEmpty()) {
            return 16 * takeFree();
        }
        if (setting == 1) {
            gaps.sort((a, b) -> Integer.compare(a[1], b[1]));
        }
        return gaps.get(0)[0];
    }

    private List<int[]> gapsOf(int b) {
        List<int[]> gaps = new ArrayList<>();
        int from = -1;
        for (int c = 0; c <= CELLS; c++) {
            boolean free = c < CELLS && grid[b][c] == -1;
            if (free && from == -1) {
                from = c;
            }
            if (!free && from != -1) {
                gaps.add(new int[] {16 * b + from, c - from});
                from = -1;
            }
        }
        return gaps;
    }

    private void putTail(int f, int at) {
        File file = files[f];
        file.tailBlock = at / 16;
        file.tailStart = at % 16;
        file.placed++;
        kind[at / 16] = 2;
        for (int c = 0; c < file.size % 16; c++) {
            grid[at / 16][at % 16 + c] = f;
        }
    }

    private void wipe(int f) {
        for (int[] row : grid) {
            for (int c = 0; c < CELLS; c++) {
                if (row[c] == f) {
                    row[c] = -1;
                }
            }
        }
        files[f].tailBlock = -1;
        files[f].tailStart = -1;
        tidy();
    }

    private int tidy() {
        int freed = 0;
        for (int b = 0; b < BLOCKS; b++) {
            if (kind[b] == 2 && tails(b).isEmpty()) {
                kind[b] = 0;
                freed++;
            }
        }
        return freed;
    }

    private List<Integer> tails(int b) {
        List<Integer> found = new ArrayList<>();
        for (int owner : grid[b]) {
            if (owner != -1 && !found.contains(owner)) {
                found.add(owner);
            }
        }
        return found;
    }

    private void doCreate(int size) throws Refused {
        int f = 0;
        while (f < 10 && files[f] != null) {
            f++;
        }
        if (f == 10) {
            throw new Refused();
        }
        files[f] = new File();
        for (int n = 0; n < size / 16; n++) {
            int b = takeFree();
            kind[b] = 1;
            files[f].wholes.add(b);
        }
        files[f].size = size;
        if (size % 16 > 0) {
            putTail(f, where(size % 16));
        }
    }

    private int doGrow(int f, int cells) throws Refused {
        File file = files[f];
        int size = file.size + cells;
        if (file.broken || size > 200) {
            throw new Refused();
        }
        if (size / 16 == file.size / 16 && file.tailBlock != -1) {
            int end = file.tailStart + file.size % 16;
            boolean room = end + cells <= 16;
            for (int c = end; room && c < end + cells; c++) {
                room = grid[file.tailBlock][c] == -1;
            }
            if (room) {
                for (int c = end; c < end + cells; c++) {
                    grid[file.tailBlock][c] = f;
                }
                file.size = size;
                return 0;
            }
        }
        wipe(f);
        while (file.wholes.size() < size / 16) {
            int b = takeFree();
            kind[b] = 1;
            file.wholes.add(b);
        }
        file.size = size;
        if (size % 16 > 0) {
            putTail(f, where(size % 16));
        }
        return 1;
    }

    private int doCut(int f, int cells) throws Refused {
        File file = files[f];
        int size = file.size - cells;
        if (file.broken || size < 0) {
            throw new Refused();
        }
        if (size / 16 == file.size / 16) {
            for (int c = size % 16; c < file.size % 16; c++) {
                grid[file.tailBlock][file.tailStart + c] = -1;
            }
            file.size = size;
            if (size % 16 == 0) {
                wipe(f);
            }
            return size;
        }
        wipe(f);
        while (file.wholes.size() > size / 16) {
            kind[file.wholes.remove(file.wholes.size() - 1)] = 0;
        }
        file.size = size;
        if (size % 16 > 0) {
            putTail(f, where(size % 16));
        }
        return size;
    }

    private int doDelete(int f) {
        int before = kinds(0);
        for (int b : files[f].wholes) {
            if (kind[b] == 1) {
                kind[b] = 0;
            }
        }
        wipe(f);
        files[f] = null;
        return kinds(0) - before;
    }

    private int doPack() throws Refused {
        List<Integer> order = new ArrayList<>();
        List<Integer> blocks = new ArrayList<>();
        for (int b = 0; b < BLOCKS; b++) {
            boolean open = kind[b] == 2;
            for (int f : tails(b)) {
                open &= !files[f].broken;
            }
            if (open) {
                blocks.add(b);
            }
        }
        for (int f = 0; f < 10; f++) {
            if (files[f] != null && !files[f].broken && files[f].size % 16 > 0) {
                order.add(f);
            }
        }
        order.sort((a, b) -> Integer.compare(files[b].size % 16, files[a].size % 16));
        for (int f : order) {
            for (int[] row : grid) {
                for (int c = 0; c < CELLS; c++) {
                    row[c] = row[c] == f ? -1 : row[c];
                }
            }
        }
        for (int f : order) {
            int at = -1;
            for (int b : blocks) {
                int used = 16;
                while (used > 0 && grid[b][used - 1] == -1) {
                    used--;
                }
                if (at == -1 && 16 - used >= files[f].size % 16) {
                    at = 16 * b + used;
                }
            }
            if (at == -1) {
                throw new Refused();
            }
            putTail(f, at);
        }
        packings++;
        return tidy();
    }

    private int kinds(int k) {
        int n = 0;
        for (int b = 0; b < BLOCKS; b++) {
            n += kind[b] == k ? 1 : 0;
        }
        return n;
    }

    private boolean hasIn(int f, int b) {
        return files[f] != null && (files[f].wholes.contains(b) || files[f].tailBlock == b);
    }

    private int least(List<Integer> lengths, List<Integer> loads, int best) {
        if (loads.size() >= best) {
            return best;
        }
        if (lengths.isEmpty()) {
            return loads.size();
        }
        List<Integer> rest = lengths.subList(1, lengths.size());
        for (int n = 0; n < loads.size(); n++) {
            if (loads.get(n) + lengths.get(0) <= 16) {
                loads.set(n, loads.get(n) + lengths.get(0));
                best = least(rest, loads, best);
                loads.set(n, loads.get(n) - lengths.get(0));
            }
        }
        loads.add(lengths.get(0));
        best = least(rest, loads, best);
        loads.remove(loads.size() - 1);
        return best;
    }

    // ---- the face

    int create(int size) {
        need(size >= 0 && size <= 200);
        save();
        return tryCreate(size);
    }

    private int tryCreate(int size) {
        Model before = copy();
        int f = 0;
        while (f < 10 && files[f] != null) {
            f++;
        }
        try {
            doCreate(size);
            return f;
        } catch (Refused e) {
            take(before);
            refused++;
            return -1;
        }
    }

    int grow(int f, int cells) {
        needFile(f);
        need(cells >= 1 && cells <= 200);
        save();
        return tryGrow(f, cells);
    }

    private int tryGrow(int f, int cells) {
        Model before = copy();
        try {
            return doGrow(f, cells);
        } catch (Refused e) {
            take(before);
            refused++;
            return -1;
        }
    }

    int cut(int f, int cells) {
        needFile(f);
        need(cells >= 1 && cells <= 200);
        save();
        return tryCut(f, cells);
    }

    private int tryCut(int f, int cells) {
        try {
            return doCut(f, cells);
        } catch (Refused e) {
            refused++;
            return -1;
        }
    }

    int delete(int f) {
        needFile(f);
        save();
        return doDelete(f);
    }

    int spoil(int b) {
        if (b < 0 || b >= BLOCKS) {
            throw new IndexOutOfBoundsException();
        }
        if (kind[b] == 3) {
            throw new IllegalStateException();
        }
        save();
        int n = 0;
        for (int f = 0; f < 10; f++) {
            if (hasIn(f, b) && !files[f].broken) {
                files[f].broken = true;
                n++;
            }
        }
        kind[b] = 3;
        return n;
    }

    int heal(int b) {
        if (b < 0 || b >= BLOCKS) {
            throw new IndexOutOfBoundsException();
        }
        for (int f = 0; f < 10; f++) {
            if (kind[b] != 3 || hasIn(f, b)) {
                throw new IllegalStateException();
            }
        }
        save();
        kind[b] = 0;
        return kinds(3);
    }

    int pack() {
        save();
        Model before = copy();
        try {
            return doPack();
        } catch (Refused e) {
            take(before);
            return -1;
        }
    }

    int set(int value) {
        need(value == 0 || value == 1);
        save();
        int previous = setting;
        setting = value;
        return previous;
    }

    int append(int code) {
        need(code >= 33 && code <= 126);
        if (buffer.length() == 60) {
            throw new IllegalStateException();
        }
        buffer.append((char) code);
        return buffer.length();
    }

    int clearBuffer() {
        int length = buffer.length();
        buffer.setLength(0);
        return length;
    }

    int firstError() {
        for (int n = 1; n <= buffer.length(); n++) {
            Matcher m = TEXT.matcher(buffer.substring(0, n));
            if (!m.matches() && !m.hitEnd()) {
                return n - 1;
            }
        }
        return buffer.length();
    }

    /** No promise: helps tests to type texts that are right. */
    boolean wouldFit(char sign) {
        Matcher m = TEXT.matcher(buffer.toString() + sign);
        return m.matches() || m.hitEnd();
    }

    int run() {
        need(TEXT.matcher(buffer).matches());
        save();
        String[] orders = buffer.toString().split(";");
        buffer.setLength(0);
        int done = 0;
        for (String order : orders) {
            if (!obey(order)) {
                return done;
            }
            done++;
        }
        return done;
    }

    private boolean obey(String order) {
        char sign = order.charAt(0);
        if (sign == '+') {
            return tryCreate(Integer.parseInt(order.substring(1))) != -1;
        }
        int f = order.charAt(1) - '0';
        if (files[f] == null) {
            return false;
        }
        if (sign == '-') {
            doDelete(f);
            return true;
        }
        int cells = Integer.parseInt(order.substring(3));
        return (sign == '>' ? tryGrow(f, cells) : tryCut(f, cells)) != -1;
    }

    int keep(int slot) {
        need(slot == 0 || slot == 1);
        slots[slot] = copy();
        return count(0);
    }

    int goBack(int slot) {
        need(slot == 0 || slot == 1);
        if (slots[slot] == null) {
            throw new IllegalStateException();
        }
        save();
        take(slots[slot]);
        return count(0);
    }

    int undo() {
        if (saved.isEmpty()) {
            throw new IllegalStateException();
        }
        take(saved.remove(saved.size() - 1));
        return saved.size();
    }

    int fileOf(int f, int what) {
        needFile(f);
        need(what >= 0 && what <= 6);
        File file = files[f];
        int[] all = {file.size, file.wholes.size(), file.size % 16, file.tailBlock, file.tailStart,
            file.broken ? 1 : 0, file.placed};
        return all[what];
    }

    int place(int f, int cell) {
        needFile(f);
        File file = files[f];
        if (cell < 0 || cell >= file.size) {
            throw new IndexOutOfBoundsException();
        }
        boolean tail = cell / 16 == file.wholes.size();
        int b = tail ? file.tailBlock : file.wholes.get(cell / 16);
        return kind[b] == 3 ? -1 : 16 * b + cell % 16 + (tail ? file.tailStart : 0);
    }

    int blockOf(int b, int what) {
        if (b < 0 || b >= BLOCKS) {
            throw new IndexOutOfBoundsException();
        }
        need(what >= 0 && what <= 4);
        int cells = 0;
        for (int c = 0; c < CELLS && kind[b] != 3; c++) {
            cells += grid[b][c] == -1 ? 0 : 1;
        }
        int gap = 0;
        for (int[] g : gapsOf(b)) {
            gap = Math.max(gap, kind[b] == 2 ? g[1] : 0);
        }
        int owner = -1;
        for (int f = 0; f < 10 && kind[b] == 1; f++) {
            owner = hasIn(f, b) ? f : owner;
        }
        int[] all = {kind[b], kind[b] == 3 ? 0 : tails(b).size(), cells, gap, owner};
        return all[what];
    }

    int count(int what) {
        need(what >= 0 && what <= 11);
        int there = 0;
        int broken = 0;
        int cells = 0;
        for (int f = 0; f < 10; f++) {
            if (files[f] != null) {
                there++;
                broken += files[f].broken ? 1 : 0;
                for (int c = 0; c < files[f].size; c++) {
                    cells += place(f, c) == -1 ? 0 : 1;
                }
            }
        }
        int gaps = 0;
        for (int b = 0; b < BLOCKS; b++) {
            for (int[] g : gapsOf(b)) {
                gaps += kind[b] == 2 ? g[1] : 0;
            }
        }
        int[] all = {there, kinds(0), kinds(1), kinds(2), kinds(3), cells, gaps, broken, refused, packings, setting,
            saved.size()};
        return all[what];
    }

    int ifPlaced(int cells) {
        need(cells >= 1 && cells <= 15);
        try {
            return where(cells);
        } catch (Refused e) {
            return -1;
        }
    }

    int ifGrown(int f, int cells) {
        needFile(f);
        need(cells >= 1 && cells <= 200);
        return copy().tryGrow(f, cells);
    }

    int greatest() {
        for (int size = 200; size >= 0; size--) {
            if (copy().tryCreate(size) != -1) {
                return size;
            }
        }
        return -1;
    }

    int fewest(int what) {
        need(what == 0 || what == 1);
        List<Integer> lengths = new ArrayList<>();
        for (File file : files) {
            if (file != null && !file.broken && file.size % 16 > 0) {
                lengths.add(file.size % 16);
            }
        }
        return least(lengths, new ArrayList<>(), lengths.size() + 1);
    }

    int ifPacked() {
        return copy().pack();
    }

    int weakest() {
        int best = -1;
        int most = 0;
        for (int b = 0; b < BLOCKS; b++) {
            int n = 0;
            for (int f = 0; f < 10 && kind[b] != 3; f++) {
                n += hasIn(f, b) && !files[f].broken ? 1 : 0;
            }
            if (n > most) {
                most = n;
                best = b;
            }
        }
        return best;
    }

    double usedShare() {
        int blocks = kinds(1) + kinds(2);
        return blocks == 0 ? 1.0 : (double) count(5) / (16.0 * blocks);
    }

    long digest() {
        List<Long> values = new ArrayList<>();
        for (int what = 0; what < 12; what++) {
            values.add((long) count(what));
        }
        for (int f = 0; f < 10; f++) {
            if (files[f] != null) {
                values.add((long) f);
                for (int what = 0; what < 7; what++) {
                    values.add((long) fileOf(f, what));
                }
                if (files[f].size > 0) {
                    values.add((long) place(f, 0));
                    values.add((long) place(f, files[f].size - 1));
                }
                values.add((long) ifGrown(f, 1));
                values.add((long) ifGrown(f, 16));
            }
        }
        for (int b = 0; b < BLOCKS; b++) {
            for (int what = 0; what < 5; what++) {
                values.add((long) blockOf(b, what));
            }
        }
        for (int v : new int[] {ifPlaced(1), ifPlaced(5), ifPlaced(15), greatest(), fewest(0), fewest(1), ifPacked(),
            weakest()}) {
            values.add((long) v);
        }
        values.add(Double.doubleToLongBits(usedShare()));
        for (Model slot : slots) {
            values.add(slot == null ? 0L : 1L);
        }
        values.add((long) buffer.length());
        for (char c : buffer.toString().toCharArray()) {
            values.add((long) c);
        }
        long hash = 3499;
        for (long v : values) {
            hash = 31 * hash + v;
        }
        return hash;
    }
}
