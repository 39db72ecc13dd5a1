import java.util.Arrays;
import java.util.NoSuchElementException;

/** Cells with a nursery, two rows that take turns, and old objects that stay where they are. */
public final class NurseryRow {
    private static final int EDEN = 0;
    private static final int ROW_0 = 1;
    private static final int ROW_1 = 2;
    private static final int OLD = 3;
    private static final int PARTS = 4;

    private static final int FIRST_EDEN = 256;
    private static final int FIRST_ROW = 64;
    private static final int FIRST_OLD = 2048;
    private static final int LEAST_EDEN = 16;
    private static final int MOST_EDEN = 1024;
    private static final int MOST_ROW = 512;
    private static final int LEAST_OLD = 64;
    private static final int MOST_OLD = 8192;
    private static final int MOST_CELLS = MOST_EDEN + 2 * MOST_ROW + MOST_OLD;

    private static final int FIRST_LIMIT = 3;
    private static final int MOST_LIMIT = 15;
    private static final int MOST_OF_A_KIND = 200;
    private static final int ROOTS = 16;

    /* An object's cells: how many fields, how many words, its age, then the fields, then the words. */
    private static final int WORDS_AT = 1;
    private static final int AGE_AT = 2;
    private static final int HEAD = 3;
    private static final int MOST_YOUNG = (MOST_EDEN + MOST_ROW) / HEAD;

    /** A run of cells that is filled from its first cell on. */
    private static final class Part {
        int first;
        int cells;
        int used;
        int objects;

        void lay(int firstCell, int howMany) {
            first = firstCell;
            cells = howMany;
            empty();
        }

        void empty() {
            used = 0;
            objects = 0;
        }

        int free() {
            return cells - used;
        }

        int end() {
            return first + used;
        }

        boolean covers(int a) {
            return a >= first && a < end();
        }

        int take(int size) {
            int a = end();
            used += size;
            objects++;
            return a;
        }
    }

    private final Part[] parts;
    private final int[] roots;
    /** The copies of the collection that goes on, in the order in which they were made. */
    private final int[] copies;
    private int[] cells;
    private int copied;
    private int ageLimit;
    private int rowInUse;
    private int collections;
    private int copiesInRows;
    private int copiesInOld;

    public NurseryRow() {
        parts = new Part[PARTS];
        for (int i = 0; i < PARTS; i++) {
            parts[i] = new Part();
        }
        roots = new int[ROOTS];
        copies = new int[MOST_YOUNG];
        cells = new int[1 + FIRST_EDEN + 2 * FIRST_ROW + FIRST_OLD];
        ageLimit = FIRST_LIMIT;
        layParts(FIRST_EDEN, FIRST_ROW, FIRST_OLD);
    }

    public int space(int eden, int row, int old) throws IllegalArgumentException {
        if (!isWithin(eden, LEAST_EDEN, MOST_EDEN)
                || !isWithin(row, 0, MOST_ROW)
                || !isWithin(old, LEAST_OLD, MOST_OLD)) {
            throw new IllegalArgumentException("no such sizes");
        }
        int before = allCells();
        layParts(eden, row, old);
        growCells();
        Arrays.fill(roots, 0);
        rowInUse = 0;
        collections = 0;
        copiesInRows = 0;
        copiesInOld = 0;
        return before;
    }

    public int limit(int n) throws IllegalArgumentException {
        if (!isWithin(n, 0, MOST_LIMIT)) {
            throw new IllegalArgumentException("no such limit");
        }
        int before = ageLimit;
        ageLimit = n;
        return before;
    }

    public int make(int fields, int words) throws IllegalArgumentException {
        if (!isWithin(fields, 0, MOST_OF_A_KIND) || !isWithin(words, 0, MOST_OF_A_KIND)) {
            throw new IllegalArgumentException("no such object");
        }
        int size = HEAD + fields + words;
        if (parts[EDEN].free() < size) {
            return 0;
        }
        int a = parts[EDEN].take(size);
        Arrays.fill(cells, a, a + size, 0);
        cells[a] = fields;
        cells[a + WORDS_AT] = words;
        return a;
    }

    public int set(int a, int field, int b) throws NoSuchElementException {
        int at = fieldCell(a, field);
        if (at == 0 || !isNothingOrObject(b)) {
            throw new NoSuchElementException("no such object or field");
        }
        return exchange(at, b);
    }

    public int get(int a, int field) throws NoSuchElementException {
        int at = fieldCell(a, field);
        if (at == 0) {
            throw new NoSuchElementException("no such object or field");
        }
        return cells[at];
    }

    public int put(int a, int k, int v) throws NoSuchElementException {
        int at = wordCell(a, k);
        if (at == 0) {
            throw new NoSuchElementException("no such object or word");
        }
        return exchange(at, v);
    }

    public int word(int a, int k) throws NoSuchElementException {
        int at = wordCell(a, k);
        if (at == 0) {
            throw new NoSuchElementException("no such object or word");
        }
        return cells[at];
    }

    public int root(int root, int a) throws NoSuchElementException {
        if (!isRoot(root) || !isNothingOrObject(a)) {
            throw new NoSuchElementException("no such root or object");
        }
        int before = roots[root];
        roots[root] = a;
        return before;
    }

    public int rooted(int root) throws NoSuchElementException {
        if (!isRoot(root)) {
            throw new NoSuchElementException("no such root");
        }
        return roots[root];
    }

    public int collect() throws IllegalStateException {
        Part eden = parts[EDEN];
        Part left = parts[ROW_0 + rowInUse];
        // Tested for all young objects at once, so that no single copy can miss its room in OLD.
        if (parts[OLD].free() < eden.used + left.used) {
            throw new IllegalStateException("OLD has too little room");
        }
        int oldOnes = parts[OLD].objects;
        copied = 0;
        followRoots();
        followOld(oldOnes);
        followCopies();
        eden.empty();
        left.empty();
        rowInUse = 1 - rowInUse;
        collections++;
        return copied;
    }

    public int about(int a, int what) throws NoSuchElementException, IllegalArgumentException {
        if (!isObject(a)) {
            throw new NoSuchElementException("no such object");
        }
        switch (what) {
            case 0: return cells[a + AGE_AT];
            case 1: return cells[a];
            case 2: return cells[a + WORDS_AT];
            case 3: return partOf(a);
            default: throw new IllegalArgumentException("nothing of that kind is told");
        }
    }

    public int next(int a) throws NoSuchElementException {
        if (a == 0) {
            return firstFrom(EDEN);
        }
        if (!isObject(a)) {
            throw new NoSuchElementException("no such object");
        }
        int part = partOf(a);
        int behind = a + sizeAt(a);
        return parts[part].covers(behind) ? behind : firstFrom(part + 1);
    }

    public int count(int what) throws IllegalArgumentException {
        switch (what) {
            case 0: return parts[EDEN].objects;
            case 1: return parts[ROW_0 + rowInUse].objects;
            case 2: return parts[OLD].objects;
            case 3: return parts[EDEN].used;
            case 4: return parts[ROW_0 + rowInUse].used;
            case 5: return parts[OLD].used;
            case 6: return collections;
            case 7: return copiesInRows;
            case 8: return copiesInOld;
            case 9: return rowInUse;
            default: throw new IllegalArgumentException("nothing of that kind is counted");
        }
    }

    private static boolean isWithin(int n, int least, int most) {
        return n >= least && n <= most;
    }

    private void layParts(int eden, int row, int old) {
        parts[EDEN].lay(1, eden);
        parts[ROW_0].lay(1 + eden, row);
        parts[ROW_1].lay(1 + eden + row, row);
        parts[OLD].lay(1 + eden + 2 * row, old);
    }

    private int allCells() {
        int all = 0;
        for (int i = 0; i < PARTS; i++) {
            all += parts[i].cells;
        }
        return all;
    }

    /** Grows at most once, to the most that can ever be asked for: many calls of space cost one array. */
    private void growCells() {
        if (cells.length <= allCells()) {
            cells = new int[1 + MOST_CELLS];
        }
    }

    private static boolean isRoot(int root) {
        return root >= 0 && root < ROOTS;
    }

    private boolean isNothingOrObject(int a) {
        return a == 0 || isObject(a);
    }

    /** Goes from object to object, as a cell inside one may hold any number and look like a beginning. */
    private boolean isObject(int a) {
        int part = partOf(a);
        if (part == PARTS) {
            return false;
        }
        int at = parts[part].first;
        for (int n = 0; n < parts[part].objects && at < a; n++) {
            at += sizeAt(at);
        }
        return at == a;
    }

    /** The part whose used cells hold the address; PARTS if none does. */
    private int partOf(int a) {
        for (int i = 0; i < PARTS; i++) {
            if (parts[i].covers(a)) {
                return i;
            }
        }
        return PARTS;
    }

    private int firstFrom(int part) {
        for (int i = part; i < PARTS; i++) {
            if (parts[i].objects > 0) {
                return parts[i].first;
            }
        }
        return 0;
    }

    private int sizeAt(int a) {
        return HEAD + cells[a] + cells[a + WORDS_AT];
    }

    /** Where a field is; 0 if there is no such object or field. */
    private int fieldCell(int a, int field) {
        if (!isObject(a) || field < 0 || field >= cells[a]) {
            return 0;
        }
        return a + HEAD + field;
    }

    /** Where a word is; 0 if there is no such object or word. */
    private int wordCell(int a, int k) {
        if (!isObject(a) || k < 0 || k >= cells[a + WORDS_AT]) {
            return 0;
        }
        return a + HEAD + cells[a] + k;
    }

    private int exchange(int at, int value) {
        int before = cells[at];
        cells[at] = value;
        return before;
    }

    private void followRoots() {
        for (int i = 0; i < ROOTS; i++) {
            roots[i] = follow(roots[i]);
        }
    }

    private void followOld(int howMany) {
        int at = parts[OLD].first;
        for (int n = 0; n < howMany; n++) {
            followFields(at);
            at += sizeAt(at);
        }
    }

    /** The copies grow in number while this goes over them, up to as many as can be young. */
    private void followCopies() {
        for (int i = 0; i < copied && i < copies.length; i++) {
            followFields(copies[i]);
        }
    }

    private void followFields(int a) {
        int end = a + HEAD + cells[a];
        for (int at = a + HEAD; at < end; at++) {
            cells[at] = follow(cells[at]);
        }
    }

    /** What a root or field that tells a must tell behind the collection. */
    private int follow(int a) {
        if (!isYoung(a)) {
            return a;
        }
        // A copied object's first cell holds its copy's address, negated: no count of fields is below 0.
        return cells[a] < 0 ? -cells[a] : copyOf(a);
    }

    private boolean isYoung(int a) {
        return parts[EDEN].covers(a) || parts[ROW_0 + rowInUse].covers(a);
    }

    private int copyOf(int a) {
        int size = sizeAt(a);
        Part row = parts[ROW_1 - rowInUse];
        boolean staysInRows = cells[a + AGE_AT] < ageLimit && row.free() >= size;
        int b = staysInRows ? row.take(size) : parts[OLD].take(size);
        System.arraycopy(cells, a, cells, b, size);
        if (staysInRows) {
            cells[b + AGE_AT]++;
            copiesInRows++;
        } else {
            copiesInOld++;
        }
        cells[a] = -b;
        noteCopy(b);
        return b;
    }

    private void noteCopy(int b) {
        if (copied < copies.length) {
            copies[copied] = b;
            copied++;
        }
    }
}
