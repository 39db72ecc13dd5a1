/** A method for each sentence under a promise that names an edge; the sentence stands above it. */
public final class PromiseEdgesTest {
    private static final int LOWEST = Integer.MIN_VALUE;
    private static final int HIGHEST = Integer.MAX_VALUE;

    private PromiseEdgesTest() {
    }

    public static void main(String[] args) {
        noObjects();
        spaceOfEden();
        spaceOfRows();
        spaceOfOld();
        spaceLeast();
        spaceMost();
        spaceTakesObjects();
        spaceTakesRoots();
        spacePutsRow0InUse();
        spacePutsCountsTo0();
        spaceKeepsTheLimit();
        spaceTellsTheCellsBefore();
        spaceRefusesEden();
        spaceRefusesRow();
        spaceRefusesOld();
        spaceRefusedKeepsTheCells();
        limitTellsTheOneBefore();
        limitRefuses();
        makeWithoutRoom();
        makeWithoutRoomChangesNothing();
        makeLeastAndMost();
        makeRefuses();
        makeRefusesBeforeItLooksForRoom();
        setNothing();
        setItself();
        setAcrossParts();
        setWrong();
        getWrong();
        putAnyInt();
        putWrong();
        wordWrong();
        rootNothing();
        rootWrong();
        rootedWrong();
        collectTellsHowMany();
        collectWithJustEnoughRoom();
        collectWithOneCellTooFew();
        collectCountsWhatIsNotReached();
        collectCountsTheRowInUse();
        collectWithOldFull();
        collectRefusedChangesNothing();
        aboutEach();
        aboutRefuses();
        aboutWrongInBoth();
        nextOfNone();
        nextAcrossParts();
        nextOfTheLast();
        nextWrong();
        countOfNone();
        countOfFull();
        countOfTheRowInUseAlone();
        countRefuses();
        Check.end();
    }

    /* 1: No objects. */
    private static void noObjects() {
        NurseryRow x = new NurseryRow();
        Check.due("1: no first object", 0, () -> x.next(0));
        int[] begins = {1, 256, 257, 320, 321, 384, 385, 2432, 2433};
        for (int a : begins) {
            Check.missing("1: none at " + a, () -> x.about(a, 0));
        }
        Check.due("1: none in EDEN", 0, () -> x.count(0));
        Check.due("1: none in the row in use", 0, () -> x.count(1));
        Check.due("1: none in OLD", 0, () -> x.count(2));
    }

    /* 2: There are so many cells in EDEN ... from now on */
    private static void spaceOfEden() {
        NurseryRow x = new NurseryRow();
        x.space(20, 5, 70);
        Check.due("2: EDEN, one cell too many", 0, () -> x.make(9, 9));
        Check.due("2: EDEN, all cells", 1, () -> x.make(9, 8));
        x.collect();
        Check.due("2: EDEN, all cells again", 1, () -> x.make(9, 8));
        Check.due("2: EDEN, full", 0, () -> x.make(0, 0));
    }

    /* 2: There are so many cells ... in each row ... from now on */
    private static void spaceOfRows() {
        NurseryRow x = new NurseryRow();
        x.space(20, 5, 70);
        Sample.rooted(x, 0, 1, 1);
        x.collect();
        Check.due("2: row 1, all cells", 26, () -> x.rooted(0));
        x.collect();
        Check.due("2: row 0, all cells", 21, () -> x.rooted(0));
        x.space(20, 4, 70);
        Sample.rooted(x, 0, 1, 1);
        x.collect();
        Check.due("2: row 1, one cell too few", 29, () -> x.rooted(0));
    }

    /* 2: There are so many cells ... in OLD from now on */
    private static void spaceOfOld() {
        NurseryRow x = new NurseryRow();
        x.limit(0);
        x.space(100, 5, 70);
        Sample.rooted(x, 0, 0, 68);
        Check.keptWhenNotNow("2: OLD, one cell too few", x);
        x.space(100, 5, 71);
        Sample.rooted(x, 0, 0, 68);
        Check.due("2: OLD, all cells", 1, () -> x.collect());
        Check.due("2: OLD, where", 111, () -> x.rooted(0));
        Check.due("2: OLD, full", 71, () -> x.count(5));
    }

    /* 2: 16, 0, 64 are the least */
    private static void spaceLeast() {
        NurseryRow x = new NurseryRow();
        x.limit(0);
        x.space(16, 0, 64);
        for (int i = 0; i < 4; i++) {
            int a = 17 + 16 * i;
            Check.due("2: least, fills EDEN", 1, () -> x.make(1, 12));
            Check.due("2: least, EDEN is full", 0, () -> x.make(0, 0));
            x.put(1, 11, a);
            x.root(a % 16, 1);
            Check.due("2: least, to OLD", 1, () -> x.collect());
            Check.due("2: least, where", a, () -> x.rooted(a % 16));
            Check.due("2: least, its last word", a, () -> x.word(a, 11));
        }
        x.make(0, 0);
        Check.keptWhenNotNow("2: least, OLD is full", x);
    }

    /* 2: 1024, 512, 8192 are the most: each cell can be used */
    private static void spaceMost() {
        NurseryRow x = new NurseryRow();
        x.space(1024, 512, 8192);
        Check.due("2: most, EDEN", 1, () -> Sample.rooted(x, 0, 200, 200));
        Check.due("2: most, EDEN", 404, () -> Sample.rooted(x, 1, 6, 100));
        Check.due("2: most, EDEN", 513, () -> Sample.rooted(x, 2, 200, 200));
        Check.due("2: most, EDEN", 916, () -> Sample.rooted(x, 3, 6, 100));
        Check.due("2: most, EDEN is full", 0, () -> x.make(0, 0));
        Check.due("2: most, first", 4, () -> x.collect());
        Check.due("2: most, row 1 is full", 512, () -> x.count(4));
        Check.due("2: most, the row's first", 1537, () -> x.rooted(0));
        Check.due("2: most, the row's last", 1537 + 403, () -> x.rooted(1));
        Check.due("2: most, OLD's first", 2049, () -> x.rooted(2));
        Check.due("2: most, OLD's second", 2049 + 403, () -> x.rooted(3));
        x.limit(0);
        x.collect();
        fillOldOfMost(x);
        Check.due("2: most, OLD is full", 8192, () -> x.count(5));
        Check.due("2: most, OLD's last", 10241 - 256, () -> x.rooted(15));
        Check.due("2: most, the last cell", 31, () -> x.word(10241 - 256, 199));
        Check.due("2: most, all cells", 10240, () -> x.space(16, 0, 64));
    }

    /** From 1024 cells that are taken in OLD to all of 8192, by 28 of 256 each. */
    private static void fillOldOfMost(NurseryRow x) {
        for (int i = 4; i < 32; i++) {
            int a = Sample.rooted(x, i % 16, 53, 200);
            x.put(a, 199, i);
            Check.due("2: most, OLD has room", 1, () -> x.collect());
        }
    }

    /* 2: all objects ... go */
    private static void spaceTakesObjects() {
        NurseryRow x = Sample.small();
        x.space(16, 10, 64);
        Check.due("2: no object is left", 0, () -> x.next(0));
        int[] begins = {1, 5, 17, 37};
        for (int a : begins) {
            Check.missing("2: gone at " + a, () -> x.about(a, 0));
        }
        Check.due("2: EDEN begins anew", 1, () -> Sample.rooted(x, 0, 0, 0));
        x.limit(0);
        x.collect();
        Check.due("2: OLD begins anew", 37, () -> x.rooted(0));
        NurseryRow y = Sample.small();
        y.space(16, 10, 64);
        Sample.rooted(y, 0, 0, 0);
        y.collect();
        y.collect();
        Check.due("2: the row begins anew", 17, () -> y.rooted(0));
    }

    /* 2: all ... roots go */
    private static void spaceTakesRoots() {
        NurseryRow x = new NurseryRow();
        x.make(0, 0);
        for (int root = 0; root < 16; root++) {
            x.root(root, 1);
        }
        x.space(256, 64, 2048);
        for (int i = 0; i < 16; i++) {
            int root = i;
            Check.due("2: root " + root + " is nothing", 0, () -> x.rooted(root));
        }
    }

    /* 2: row 0 is in use: when row 1 was, and when row 0 was */
    private static void spacePutsRow0InUse() {
        NurseryRow x = new NurseryRow();
        x.space(16, 3, 64);
        Check.due("2: row 0 stays in use", 0, () -> x.count(9));
        x.collect();
        x.space(16, 3, 64);
        Check.due("2: row 0 is in use again", 0, () -> x.count(9));
        Sample.rooted(x, 0, 0, 0);
        x.collect();
        Check.due("2: copies go to row 1", 20, () -> x.rooted(0));
    }

    /* 2: all counts are 0 */
    private static void spacePutsCountsTo0() {
        NurseryRow x = new NurseryRow();
        Sample.inOld(x, 0, 1, 1);
        Sample.rooted(x, 1, 1, 1);
        x.collect();
        x.collect();
        x.make(1, 1);
        for (int i = 0; i <= 9; i++) {
            int what = i;
            Check.same("2: count " + what + " before", Boolean.toString(x.count(what) > 0), "true");
        }
        x.space(256, 64, 2048);
        for (int i = 0; i <= 9; i++) {
            int what = i;
            Check.due("2: count " + what, 0, () -> x.count(what));
        }
    }

    /* 2: the limit stays */
    private static void spaceKeepsTheLimit() {
        NurseryRow x = new NurseryRow();
        x.limit(0);
        x.space(16, 3, 64);
        Sample.rooted(x, 0, 0, 0);
        x.collect();
        Check.due("2: the limit is still 0", 23, () -> x.rooted(0));
        Check.due("2: and told", 0, () -> x.limit(15));
        x.space(16, 3, 64);
        Check.due("2: 15 stays too", 15, () -> x.limit(3));
    }

    /* 2: how many cells there were in all */
    private static void spaceTellsTheCellsBefore() {
        NurseryRow x = new NurseryRow();
        Check.due("2: cells at first", 2432, () -> x.space(16, 0, 64));
        Check.due("2: the least cells", 80, () -> x.space(1024, 512, 8192));
        Check.due("2: the most cells", 10240, () -> x.space(17, 3, 65));
        Check.due("2: both rows count", 88, () -> x.space(17, 3, 65));
        x.make(0, 0);
        Check.due("2: taken or not", 88, () -> x.space(16, 0, 64));
    }

    /* 2: IllegalArgumentException: eden is not 16 .. 1024 */
    private static void spaceRefusesEden() {
        NurseryRow x = Sample.small();
        int[] wrong = {LOWEST, -16, -1, 0, 15, 1025, 65552, HIGHEST};
        for (int n : wrong) {
            Check.keptWhenRefused("2: eden " + n, small -> small.space(n, 10, 64));
        }
        Check.due("2: eden 16", 100, () -> x.space(16, 0, 64));
        Check.due("2: eden 1024", 80, () -> x.space(1024, 0, 64));
    }

    /* 2: row not 0 .. 512 */
    private static void spaceRefusesRow() {
        NurseryRow x = Sample.small();
        int[] wrong = {LOWEST, -512, -1, 513, 1 << 30, HIGHEST};
        for (int n : wrong) {
            Check.keptWhenRefused("2: row " + n, small -> small.space(16, n, 64));
        }
        Check.due("2: row 0", 100, () -> x.space(16, 0, 64));
        Check.due("2: row 512", 80, () -> x.space(16, 512, 64));
    }

    /* 2: old not 64 .. 8192 */
    private static void spaceRefusesOld() {
        NurseryRow x = Sample.small();
        int[] wrong = {LOWEST, -64, -1, 0, 63, 8193, HIGHEST};
        for (int n : wrong) {
            Check.keptWhenRefused("2: old " + n, small -> small.space(16, 10, n));
        }
        Check.due("2: old 64", 100, () -> x.space(16, 0, 64));
        Check.due("2: old 8192", 80, () -> x.space(16, 0, 8192));
    }

    /* 2: Such a call changes nothing: not the number of cells either */
    private static void spaceRefusedKeepsTheCells() {
        NurseryRow x = new NurseryRow();
        Check.refused("2: old alone is wrong", () -> x.space(16, 0, 63));
        Check.due("2: EDEN still has 256 cells", 1, () -> x.make(200, 53));
        Check.refused("2: row alone is wrong", () -> x.space(16, 513, 64));
        Check.due("2: all cells still stand", 2432, () -> x.space(16, 0, 64));
    }

    /* 3: The limit from now on: what it was. */
    private static void limitTellsTheOneBefore() {
        NurseryRow x = new NurseryRow();
        Check.due("3: 3 at first", 3, () -> x.limit(0));
        Check.due("3: the least", 0, () -> x.limit(15));
        Check.due("3: the most", 15, () -> x.limit(15));
        Check.due("3: the same again", 15, () -> x.limit(1));
        Check.due("3: one", 1, () -> x.limit(3));
    }

    /* 3: IllegalArgumentException: n is not 0 .. 15. */
    private static void limitRefuses() {
        int[] wrong = {LOWEST, -1, 16, 256, HIGHEST};
        for (int n : wrong) {
            Check.keptWhenRefused("3: limit " + n, small -> small.limit(n));
        }
    }

    /* 4: 0 if EDEN has no room: by one cell, and though OLD and the rows have room */
    private static void makeWithoutRoom() {
        NurseryRow x = new NurseryRow();
        x.space(16, 512, 8192);
        Check.due("4: 17 cells", 0, () -> x.make(14, 0));
        Check.due("4: 17 cells", 0, () -> x.make(0, 14));
        Check.due("4: 17 cells", 0, () -> x.make(7, 7));
        Check.due("4: 12 cells", 1, () -> x.make(9, 0));
        Check.due("4: 5 where 4 are left", 0, () -> x.make(1, 1));
        Check.due("4: 4 where 4 are left", 13, () -> x.make(1, 0));
        Check.due("4: the least where none is left", 0, () -> x.make(0, 0));
    }

    /* 4: an object that is not made leaves all as it was */
    private static void makeWithoutRoomChangesNothing() {
        NurseryRow x = Sample.small();
        String before = Check.state(x);
        Check.due("4: no room", 0, () -> x.make(200, 200));
        Check.due("4: no room for one cell more", 0, () -> x.make(2, 3));
        Check.same("4: without room", Check.state(x), before);
        Check.due("4: the room that is left", 10, () -> x.make(2, 2));
    }

    /* 4: fields or words ... 0 .. 200 */
    private static void makeLeastAndMost() {
        NurseryRow x = new NurseryRow();
        x.space(1024, 0, 64);
        Check.due("4: none of either", 1, () -> x.make(0, 0));
        Check.due("4: 200 fields", 4, () -> x.make(200, 0));
        Check.due("4: 200 words", 207, () -> x.make(0, 200));
        Check.due("4: 200 of each", 410, () -> x.make(200, 200));
        Check.due("4: its fields", 200, () -> x.about(410, 1));
        Check.due("4: its words", 200, () -> x.about(410, 2));
        Check.due("4: 812 cells are taken", 3 + 203 + 203 + 403, () -> x.count(3));
    }

    /* 4: IllegalArgumentException: fields or words is not 0 .. 200. */
    private static void makeRefuses() {
        NurseryRow x = new NurseryRow();
        x.space(1024, 0, 64);
        int[] wrong = {LOWEST, -3, -1, 201, 256, HIGHEST};
        for (int n : wrong) {
            Check.refused("4: fields " + n, () -> x.make(n, 0));
            Check.refused("4: words " + n, () -> x.make(0, n));
            Check.refused("4: both " + n, () -> x.make(n, n));
            Check.keptWhenRefused("4: fields " + n, small -> small.make(n, 0));
            Check.keptWhenRefused("4: words " + n, small -> small.make(0, n));
        }
        Check.refused("4: together 0", () -> x.make(-1, 1));
        Check.due("4: behind refused ones", 1, () -> x.make(0, 0));
    }

    /* 4: wrong numbers are refused though EDEN is full */
    private static void makeRefusesBeforeItLooksForRoom() {
        NurseryRow x = new NurseryRow();
        x.make(200, 53);
        Check.refused("4: fields, EDEN full", () -> x.make(201, 0));
        Check.refused("4: words, EDEN full", () -> x.make(0, 201));
        Check.due("4: one object still", 1, () -> x.count(0));
    }

    /* 5: (0: nothing) */
    private static void setNothing() {
        NurseryRow x = Sample.small();
        Check.due("5: nothing to nothing", 0, () -> x.set(1, 0, 0));
        Check.due("5: an object to nothing", 17, () -> x.set(37, 0, 0));
        Check.due("5: nothing is told", 0, () -> x.get(37, 0));
    }

    /* 5: A field ... becomes the object at b: which may be that at a */
    private static void setItself() {
        NurseryRow x = Sample.small();
        Check.due("5: itself", 0, () -> x.set(5, 0, 5));
        Check.due("5: itself is told", 5, () -> x.set(5, 0, 5));
        Check.due("5: its word stands", 0, () -> x.word(5, 0));
    }

    /* 5: the object at b: in EDEN, the row in use, OLD, from each of these */
    private static void setAcrossParts() {
        NurseryRow x = Sample.small();
        int[] begins = {1, 5, 17, 37};
        for (int a : begins) {
            for (int b : begins) {
                x.set(a, 0, b);
                Check.due("5: from " + a + " to " + b, b, () -> x.get(a, 0));
            }
        }
    }

    /* 5: NoSuchElementException: a, field, or b (that can be 0). */
    private static void setWrong() {
        Check.keptWhenMissing("5: a", small -> small.set(2, 0, 37));
        Check.keptWhenMissing("5: a is 0", small -> small.set(0, 0, 37));
        Check.keptWhenMissing("5: b", small -> small.set(37, 0, 2));
        Check.keptWhenMissing("5: b is -1", small -> small.set(37, 0, -1));
        int[] wrong = {LOWEST, -1, 1, 2, HIGHEST};
        for (int field : wrong) {
            Check.keptWhenMissing("5: field " + field, small -> small.set(37, field, 17));
            Check.keptWhenMissing("5: field " + field + " to nothing", small -> small.set(37, field, 0));
        }
        NurseryRow y = new NurseryRow();
        y.make(200, 1);
        Check.due("5: field 199", 0, () -> y.set(1, 199, 1));
        Check.missing("5: field 200 is its word", () -> y.set(1, 200, 1));
        Check.due("5: the word stands", 0, () -> y.word(1, 0));
    }

    /* 6: What a field tells. NoSuchElementException. */
    private static void getWrong() {
        NurseryRow x = Sample.small();
        int[] wrong = {LOWEST, -1, 1, 2, HIGHEST};
        for (int field : wrong) {
            Check.keptWhenMissing("6: field " + field, small -> small.get(37, field));
        }
        Check.keptWhenMissing("6: a", small -> small.get(2, 0));
        Check.keptWhenMissing("6: a is 0", small -> small.get(0, 0));
        Check.due("6: the only field", 17, () -> x.get(37, 0));
        NurseryRow y = new NurseryRow();
        y.make(200, 1);
        y.set(1, 0, 1);
        y.set(1, 199, 1);
        Check.due("6: field 0", 1, () -> y.get(1, 0));
        Check.due("6: field 199", 1, () -> y.get(1, 199));
        Check.missing("6: field 200", () -> y.get(1, 200));
    }

    /* 7: A word becomes v: what it was: any int, also one that is an address, and through a collection */
    private static void putAnyInt() {
        NurseryRow x = new NurseryRow();
        x.make(0, 1);
        x.root(0, 1);
        int[] values = {LOWEST, HIGHEST, -1, 0, 1, 321, -321};
        int was = 0;
        for (int v : values) {
            Check.due("7: before " + v, was, () -> x.put(1, 0, v));
            was = v;
        }
        x.put(1, 0, LOWEST);
        x.collect();
        Check.due("7: the copy has it", LOWEST, () -> x.put(321, 0, 321));
        x.collect();
        Check.due("7: no word is an address", 321, () -> x.word(257, 0));
    }

    /* 7: NoSuchElementException. */
    private static void putWrong() {
        int[] wrong = {LOWEST, -1, 1, 2, HIGHEST};
        for (int k : wrong) {
            Check.keptWhenMissing("7: word " + k, small -> small.put(17, k, 99));
        }
        Check.keptWhenMissing("7: no words", small -> small.put(1, 0, 99));
        Check.keptWhenMissing("7: a", small -> small.put(2, 0, 99));
        Check.keptWhenMissing("7: a is 0", small -> small.put(0, 0, 99));
        NurseryRow y = new NurseryRow();
        y.make(1, 200);
        y.make(0, 0);
        Check.due("7: word 199", 0, () -> y.put(1, 199, 7));
        Check.missing("7: word 200 is another's cell", () -> y.put(1, 200, 7));
        Check.due("7: the other stands", 0, () -> y.about(205, 1));
    }

    /* 8: A word. NoSuchElementException. */
    private static void wordWrong() {
        NurseryRow x = Sample.small();
        int[] wrong = {LOWEST, -1, 1, 2, HIGHEST};
        for (int k : wrong) {
            Check.keptWhenMissing("8: word " + k, small -> small.word(17, k));
        }
        Check.keptWhenMissing("8: no words", small -> small.word(1, 0));
        Check.keptWhenMissing("8: a", small -> small.word(2, 0));
        Check.keptWhenMissing("8: a is 0", small -> small.word(0, 0));
        Check.due("8: the only word", 17, () -> x.word(17, 0));
        NurseryRow y = new NurseryRow();
        y.make(1, 200);
        y.put(1, 0, 6);
        y.put(1, 199, 7);
        Check.due("8: word 0", 6, () -> y.word(1, 0));
        Check.due("8: word 199", 7, () -> y.word(1, 199));
        Check.missing("8: word 200", () -> y.word(1, 200));
    }

    /* 9: A root becomes the object at a (0: nothing): what it told. */
    private static void rootNothing() {
        NurseryRow x = Sample.small();
        Check.due("9: was OLD's", 37, () -> x.root(0, 0));
        Check.due("9: was nothing", 0, () -> x.root(0, 0));
        Check.due("9: nothing is told", 0, () -> x.rooted(0));
        Check.due("9: the last", 0, () -> x.root(15, 1));
        Check.due("9: the last was EDEN's", 1, () -> x.root(15, 17));
        Check.due("9: the last was the row's", 17, () -> x.root(15, 0));
    }

    /* 9: NoSuchElementException: root, or a (that can be 0). */
    private static void rootWrong() {
        int[] wrong = {LOWEST, -1, 16, 17, HIGHEST};
        for (int root : wrong) {
            Check.keptWhenMissing("9: root " + root, small -> small.root(root, 1));
            Check.keptWhenMissing("9: root " + root + " to nothing", small -> small.root(root, 0));
        }
        Check.keptWhenMissing("9: a", small -> small.root(0, 2));
        Check.keptWhenMissing("9: a is -1", small -> small.root(15, -1));
        Check.keptWhenMissing("9: both", small -> small.root(16, 2));
    }

    /* 10: What a root tells. NoSuchElementException. */
    private static void rootedWrong() {
        NurseryRow x = Sample.small();
        x.root(15, 1);
        int[] wrong = {LOWEST, -1, 16, 17, HIGHEST};
        for (int root : wrong) {
            Check.keptWhenMissing("10: root " + root, small -> small.rooted(root));
        }
        Check.due("10: the first", 37, () -> x.rooted(0));
        Check.due("10: nothing", 0, () -> x.rooted(14));
        Check.due("10: the last", 1, () -> x.rooted(15));
    }

    /* 11: how many objects were copied: in this collection, into the row and to OLD together */
    private static void collectTellsHowMany() {
        NurseryRow x = new NurseryRow();
        Check.due("11: none there", 0, () -> x.collect());
        Sample.rooted(x, 0, 0, 0);
        Sample.rooted(x, 1, 0, 70);
        x.make(0, 0);
        Check.due("11: one in a row, one in OLD", 2, () -> x.collect());
        Check.due("11: that in the row alone", 1, () -> x.collect());
        x.root(0, 0);
        Check.due("11: none is reached", 0, () -> x.collect());
    }

    /* 11: OLD has room for fewer cells than all young objects take: as many are enough */
    private static void collectWithJustEnoughRoom() {
        NurseryRow x = new NurseryRow();
        x.limit(0);
        x.space(100, 0, 64);
        Sample.rooted(x, 0, 0, 29);
        Sample.rooted(x, 1, 0, 29);
        Check.due("11: just enough room", 2, () -> x.collect());
        Check.due("11: OLD is full", 64, () -> x.count(5));
        Check.due("11: OLD's last", 133, () -> x.rooted(1));
    }

    /* 11: IllegalStateException: OLD has room for fewer cells than all young objects take. */
    private static void collectWithOneCellTooFew() {
        NurseryRow x = new NurseryRow();
        x.space(100, 512, 64);
        Sample.rooted(x, 0, 0, 29);
        Sample.rooted(x, 1, 0, 30);
        Check.keptWhenNotNow("11: one cell too few, though the row has room", x);
        Check.keptWhenNotNow("11: and again", x);
    }

    /* 11: all young objects: those that are not reached too */
    private static void collectCountsWhatIsNotReached() {
        NurseryRow x = new NurseryRow();
        x.space(100, 512, 64);
        x.make(0, 62);
        Check.keptWhenNotNow("11: none is reached", x);
    }

    /* 11: all young objects: those in the row in use too, and none in the other */
    private static void collectCountsTheRowInUse() {
        NurseryRow x = new NurseryRow();
        x.space(100, 20, 64);
        Sample.rooted(x, 0, 0, 17);
        x.collect();
        x.make(0, 41);
        Check.due("11: 20 and 44 are enough", 1, () -> x.collect());
        x.make(0, 42);
        Check.keptWhenNotNow("11: 20 and 45 are too many", x);
    }

    /* 11: a full OLD refuses the least young object, yet not none */
    private static void collectWithOldFull() {
        NurseryRow x = new NurseryRow();
        x.space(100, 20, 64);
        Sample.inOld(x, 0, 1, 60);
        Check.due("11: full", 64, () -> x.count(5));
        Check.due("11: full, but none is young", 0, () -> x.collect());
        x.make(0, 0);
        Check.keptWhenNotNow("11: full, and one is young", x);
    }

    /* 11: Such a call changes nothing: no copy, no turn of the rows, no collection */
    private static void collectRefusedChangesNothing() {
        NurseryRow x = new NurseryRow();
        x.space(100, 40, 64);
        Sample.rooted(x, 0, 1, 20);
        x.collect();
        Sample.rooted(x, 1, 1, 37);
        x.set(1, 0, x.rooted(0));
        x.set(x.rooted(0), 0, 1);
        Check.keptWhenNotNow("11: refused", x);
        Check.due("11: no collection", 1, () -> x.count(6));
        Check.due("11: the row in use stays", 1, () -> x.count(9));
        Check.due("11: what it tells stays", 141, () -> x.get(1, 0));
        Check.due("11: what tells it stays", 1, () -> x.get(141, 0));
        Check.due("11: it is as old as it was", 1, () -> x.about(141, 0));
    }

    /* 12: 0 its age, 1 its fields, 2 its words, 3 where it is (0 EDEN, 1 ROW 0, 2 ROW 1, 3 OLD) */
    private static void aboutEach() {
        NurseryRow x = Sample.small();
        Check.due("12: age in EDEN", 0, () -> x.about(5, 0));
        Check.due("12: age in the row", 1, () -> x.about(17, 0));
        Check.due("12: age in OLD", 0, () -> x.about(37, 0));
        Check.due("12: fields", 1, () -> x.about(1, 1));
        Check.due("12: no words", 0, () -> x.about(1, 2));
        Check.due("12: EDEN", 0, () -> x.about(5, 3));
        Check.due("12: ROW 0", 1, () -> x.about(17, 3));
        Check.due("12: OLD", 3, () -> x.about(37, 3));
        x.collect();
        Check.due("12: ROW 1", 2, () -> x.about(x.rooted(1), 3));
        x.space(16, 0, 64);
        x.make(0, 13);
        Check.due("12: no fields", 0, () -> x.about(1, 1));
        Check.due("12: words", 13, () -> x.about(1, 2));
    }

    /* 12: IllegalArgumentException: none of these. */
    private static void aboutRefuses() {
        int[] wrong = {LOWEST, -1, 4, 5, HIGHEST};
        for (int what : wrong) {
            Check.keptWhenRefused("12: what " + what, small -> small.about(37, what));
        }
        Check.keptWhenRefused("12: in EDEN", small -> small.about(1, 4));
        Check.keptWhenRefused("12: in the row", small -> small.about(17, -1));
    }

    /* EXCEPTIONS: NoSuchElementException ... IllegalArgumentException, then IllegalStateException */
    private static void aboutWrongInBoth() {
        Check.keptWhenMissing("12: both are wrong", small -> small.about(2, 4));
        Check.keptWhenMissing("12: both are wrong, a is 0", small -> small.about(0, -1));
        Check.keptWhenMissing("12: a alone is wrong", small -> small.about(2, 3));
    }

    /* 13: (a = 0: of the first); 0 if there is none: without any object */
    private static void nextOfNone() {
        NurseryRow x = new NurseryRow();
        Check.due("13: none", 0, () -> x.next(0));
        x.make(0, 0);
        x.collect();
        Check.due("13: none again", 0, () -> x.next(0));
        x.make(0, 0);
        x.space(16, 0, 64);
        Check.due("13: none behind space", 0, () -> x.next(0));
    }

    /* 13: The address of the object that comes behind the one at a, by ascending addresses: over empty parts too */
    private static void nextAcrossParts() {
        NurseryRow x = Sample.small();
        Check.due("13: the first in EDEN", 1, () -> x.next(0));
        Check.due("13: within EDEN", 5, () -> x.next(1));
        Check.due("13: from EDEN to row 0", 17, () -> x.next(5));
        Check.due("13: from row 0 to OLD", 37, () -> x.next(17));
        x.collect();
        Check.due("13: the first in row 1", 27, () -> x.next(0));
        NurseryRow y = new NurseryRow();
        Sample.inOld(y, 0, 0, 0);
        Check.due("13: the first in OLD", 385, () -> y.next(0));
        y.make(0, 0);
        Check.due("13: from EDEN to OLD", 385, () -> y.next(1));
        y.root(1, 1);
        y.collect();
        y.collect();
        y.make(200, 53);
        Check.due("13: from a full EDEN to row 1", 321, () -> y.next(1));
    }

    /* 13: 0 if there is none: behind the last of EDEN, of a row, of a full OLD */
    private static void nextOfTheLast() {
        NurseryRow x = new NurseryRow();
        x.space(64, 3, 64);
        Sample.rooted(x, 0, 0, 0);
        Check.due("13: the last in EDEN", 0, () -> x.next(1));
        x.collect();
        Check.due("13: the last in row 1", 0, () -> x.next(68));
        x.collect();
        Check.due("13: the last in row 0", 0, () -> x.next(65));
        x.root(0, 0);
        x.collect();
        Sample.inOld(x, 0, 0, 61);
        Check.due("13: the last in a full OLD", 0, () -> x.next(71));
    }

    /* 13: NoSuchElementException: a (that can be 0). */
    private static void nextWrong() {
        int[] wrong = {LOWEST, -1, 2, 10, 16, 18, 27, 42, 100, 101, HIGHEST};
        for (int a : wrong) {
            Check.keptWhenMissing("13: " + a, small -> small.next(a));
        }
    }

    private static void counts(String when, NurseryRow x, int... want) {
        for (int i = 0; i < want.length; i++) {
            int what = i;
            Check.due("14: count " + what + " " + when, want[i], () -> x.count(what));
        }
    }

    /* 14: each is 0 when there is none of it */
    private static void countOfNone() {
        counts("of none", new NurseryRow(), 0, 0, 0, 0, 0, 0, 0, 0, 0, 0);
    }

    /* 14: each when EDEN, the row in use and OLD are full */
    private static void countOfFull() {
        NurseryRow x = new NurseryRow();
        x.space(16, 6, 64);
        x.limit(0);
        for (int i = 0; i < 3; i++) {
            Sample.rooted(x, i, 13, 0);
            x.collect();
        }
        x.limit(3);
        Sample.rooted(x, 3, 0, 0);
        Sample.rooted(x, 4, 0, 0);
        Sample.rooted(x, 5, 7, 0);
        x.collect();
        counts("of a full row", x, 0, 2, 4, 0, 6, 58, 4, 2, 4, 0);
        x.root(3, 0);
        Sample.rooted(x, 6, 0, 0);
        Check.notNow("14: no room for 9", () -> x.collect());
        counts("when refused", x, 1, 2, 4, 3, 6, 58, 4, 2, 4, 0);
        x.make(10, 0);
        counts("of a full EDEN", x, 2, 2, 4, 16, 6, 58, 4, 2, 4, 0);
        NurseryRow y = new NurseryRow();
        y.space(100, 3, 64);
        Sample.inOld(y, 0, 0, 61);
        counts("of a full OLD", y, 0, 0, 1, 0, 0, 64, 1, 0, 1, 1);
    }

    /* 14: 1 in the row in use: not what was in the other one */
    private static void countOfTheRowInUseAlone() {
        NurseryRow x = new NurseryRow();
        Sample.rooted(x, 0, 0, 0);
        Sample.rooted(x, 1, 0, 0);
        x.collect();
        x.root(1, 0);
        x.collect();
        counts("of row 0", x, 0, 1, 0, 0, 3, 0, 2, 3, 0, 0);
        x.root(0, 0);
        x.collect();
        counts("of row 1", x, 0, 0, 0, 0, 0, 0, 3, 3, 0, 1);
    }

    /* 14: IllegalArgumentException: none of these. */
    private static void countRefuses() {
        int[] wrong = {LOWEST, -1, 10, 11, HIGHEST};
        for (int what : wrong) {
            Check.keptWhenRefused("14: " + what, small -> small.count(what));
        }
    }
}
