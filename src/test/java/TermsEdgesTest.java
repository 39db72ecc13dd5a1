/** A method for each sentence under "Terms" that names an edge; the sentence stands above it. */
public final class TermsEdgesTest {
    private TermsEdgesTest() {
    }

    public static void main(String[] args) {
        addressesGoFrom1On();
        edenAtFirst();
        rowsAtFirst();
        oldAtFirst();
        fieldsAtFirst();
        wordsAtFirst();
        leastObject();
        mostObject();
        ageAtFirst();
        rootsAtFirst();
        madeBehindTheLastOne();
        madeAtTheFirstCell();
        row0IsInUseAtFirst();
        rowsTakeTurns();
        youngOnes();
        roots0First();
        thenOld();
        oldByAscendingAddresses();
        onlyThoseInOldWhenItBegan();
        copiesInTheirOrder();
        copiesInBothPlaces();
        copiedOnce();
        ageBelowTheLimit();
        limit0();
        limit15();
        roomInTheRow();
        rowOfNoCells();
        rowTooSmallForAny();
        aSmallerOneStillFindsRoom();
        copyIs1Older();
        toOldAsOldAsItWas();
        toOldDirectlyBehindTheLastOne();
        edenAndTheRowAreEmpty();
        nothingToCopy();
        whatIsOldStays();
        addressesWhereNoObjectBegins();
        goneObjects();
        Check.end();
    }

    /* CELLS have ADDRESSES from 1 on: first EDEN, e of them, then ROW 0 and ROW 1, r each, then OLD, o of them */
    private static void addressesGoFrom1On() {
        NurseryRow x = new NurseryRow();
        x.space(17, 5, 66);
        Check.due("cells: EDEN begins at 1", 1, () -> Sample.rooted(x, 0, 0, 0));
        x.collect();
        Check.due("cells: ROW 1 begins at 1 + e + r", 23, () -> x.rooted(0));
        x.collect();
        Check.due("cells: ROW 0 begins at 1 + e", 18, () -> x.rooted(0));
        x.limit(0);
        x.collect();
        Check.due("cells: OLD begins at 1 + e + 2r", 28, () -> x.rooted(0));
    }

    /* (at first 256, 64, 2048): 256 */
    private static void edenAtFirst() {
        NurseryRow x = new NurseryRow();
        Check.due("EDEN at first: one cell too many", 0, () -> x.make(200, 54));
        Check.due("EDEN at first: all cells", 1, () -> x.make(200, 53));
        Check.due("EDEN at first: 256 are taken", 256, () -> x.count(3));
        Check.due("EDEN at first: full", 0, () -> x.make(0, 0));
    }

    /* (at first 256, 64, 2048): 64 */
    private static void rowsAtFirst() {
        NurseryRow x = new NurseryRow();
        Sample.rooted(x, 0, 0, 62);
        x.collect();
        Check.due("rows at first: one cell too many", 385, () -> x.rooted(0));
        Sample.rooted(x, 1, 0, 61);
        x.collect();
        Check.due("row 0 at first: all cells", 257, () -> x.rooted(1));
        Check.due("row 0 at first: 64 are taken", 64, () -> x.count(4));
        x.collect();
        Check.due("row 1 at first: all cells", 321, () -> x.rooted(1));
    }

    /* (at first 256, 64, 2048): 2048 */
    private static void oldAtFirst() {
        NurseryRow x = new NurseryRow();
        x.limit(0);
        for (int i = 0; i < 8; i++) {
            Sample.rooted(x, i, 200, 53);
            Check.due("OLD at first: has room", 1, () -> x.collect());
        }
        Check.due("OLD at first: the last one", 385 + 7 * 256, () -> x.rooted(7));
        Check.due("OLD at first: 2048 are taken", 2048, () -> x.count(5));
        x.make(0, 0);
        Check.notNow("OLD at first: full", () -> x.collect());
    }

    /* An OBJECT has FIELDS, each nothing (0) or an object: nothing when it is made, whatever its cells held */
    private static void fieldsAtFirst() {
        NurseryRow x = new NurseryRow();
        x.make(2, 0);
        x.set(1, 0, 1);
        x.set(1, 1, 1);
        x.collect();
        x.make(2, 0);
        Check.due("fields at first: the first", 0, () -> x.get(1, 0));
        Check.due("fields at first: the last", 0, () -> x.get(1, 1));
        x.set(1, 1, 1);
        x.space(16, 0, 64);
        x.make(2, 0);
        Check.due("fields at first: behind space", 0, () -> x.get(1, 1));
    }

    /* and WORDS, ints (all 0 at first) */
    private static void wordsAtFirst() {
        NurseryRow x = new NurseryRow();
        x.make(0, 2);
        x.put(1, 0, Integer.MIN_VALUE);
        x.put(1, 1, Integer.MAX_VALUE);
        x.collect();
        x.make(0, 2);
        Check.due("words at first: the first", 0, () -> x.word(1, 0));
        Check.due("words at first: the last", 0, () -> x.word(1, 1));
        x.put(1, 1, 9);
        x.space(16, 0, 64);
        x.make(0, 2);
        Check.due("words at first: behind space", 0, () -> x.word(1, 1));
    }

    /* It takes 3 + its fields + its words cells: none of either */
    private static void leastObject() {
        NurseryRow x = new NurseryRow();
        x.space(16, 0, 64);
        for (int i = 0; i < 5; i++) {
            Check.due("least object: takes 3 cells", 1 + 3 * i, () -> x.make(0, 0));
        }
        Check.due("least object: 15 are taken", 15, () -> x.count(3));
        Check.due("least object: one cell is too few", 0, () -> x.make(0, 0));
        Check.missing("least object: has no field 0", () -> x.get(1, 0));
        Check.missing("least object: has no word 0", () -> x.word(1, 0));
    }

    /* It takes 3 + its fields + its words cells: 200 of each */
    private static void mostObject() {
        NurseryRow x = new NurseryRow();
        x.space(402, 0, 8192);
        Check.due("most object: one cell too few", 0, () -> x.make(200, 200));
        x.space(403, 403, 8192);
        Check.due("most object: has room", 1, () -> x.make(200, 200));
        Check.due("most object: 403 are taken", 403, () -> x.count(3));
        x.set(1, 199, 1);
        x.put(1, 199, 8);
        x.put(1, 0, 7);
        x.root(0, 1);
        x.collect();
        Check.due("most object: all of a row", 403, () -> x.count(4));
        Check.due("most object: its last field", 807, () -> x.get(807, 199));
        Check.due("most object: its first word", 7, () -> x.word(807, 0));
        Check.due("most object: its last word", 8, () -> x.word(807, 199));
    }

    /* It has an AGE, 0 at first. */
    private static void ageAtFirst() {
        NurseryRow x = new NurseryRow();
        Sample.rooted(x, 0, 0, 0);
        Check.due("age at first", 0, () -> x.about(1, 0));
        x.collect();
        x.make(0, 0);
        Check.due("age at first: where one was before", 0, () -> x.about(1, 0));
    }

    /* ROOTS are 0 .. 15, each nothing (0) or an object (nothing at first). */
    private static void rootsAtFirst() {
        NurseryRow x = new NurseryRow();
        for (int i = 0; i < 16; i++) {
            int root = i;
            Check.due("roots at first: root " + root, 0, () -> x.rooted(root));
        }
        x.make(0, 0);
        Check.due("roots: the first", 0, () -> x.root(0, 1));
        Check.due("roots: the last", 0, () -> x.root(15, 1));
        Check.keptWhenMissing("roots: -1", small -> small.rooted(-1));
        Check.keptWhenMissing("roots: 16", small -> small.rooted(16));
    }

    /* An object is made in EDEN, directly behind the last one there */
    private static void madeBehindTheLastOne() {
        NurseryRow x = new NurseryRow();
        x.make(1, 1);
        Check.due("made: behind the last one", 6, () -> x.make(0, 0));
        Check.due("made: no room", 0, () -> x.make(200, 200));
        Check.due("made: behind one that found no room", 9, () -> x.make(0, 0));
        Check.refused("made: wrong", () -> x.make(0, 201));
        Check.due("made: behind a wrong one", 12, () -> x.make(0, 0));
    }

    /* the first one at its first cell: again when a collection has emptied EDEN */
    private static void madeAtTheFirstCell() {
        NurseryRow x = new NurseryRow();
        Check.due("made: the first", 1, () -> Sample.rooted(x, 0, 200, 53));
        Check.due("made: full", 0, () -> x.make(0, 0));
        x.collect();
        Check.due("made: the first behind a collection", 1, () -> x.make(200, 53));
    }

    /* One of the rows is IN USE, row 0 at first. */
    private static void row0IsInUseAtFirst() {
        NurseryRow x = new NurseryRow();
        Check.due("row in use: row 0", 0, () -> x.count(9));
        Sample.rooted(x, 0, 0, 0);
        x.collect();
        Check.due("row in use: the other one takes the first copies", 2, () -> x.about(x.rooted(0), 3));
    }

    /* and the other row is in use: from row 1 back to row 0, and so on */
    private static void rowsTakeTurns() {
        NurseryRow x = new NurseryRow();
        x.limit(15);
        Sample.rooted(x, 0, 0, 0);
        for (int i = 1; i <= 15; i++) {
            int row = i % 2;
            x.collect();
            Check.due("turns: in use", row, () -> x.count(9));
            Check.due("turns: where the copy is", row == 0 ? 257 : 321, () -> x.rooted(0));
            Check.due("turns: one object in the row", 1, () -> x.count(1));
        }
    }

    /* YOUNG are the objects in EDEN and in the row in use. */
    private static void youngOnes() {
        NurseryRow x = new NurseryRow();
        Sample.inOld(x, 0, 0, 0);
        Sample.rooted(x, 1, 0, 0);
        x.collect();
        Sample.rooted(x, 2, 0, 0);
        Check.due("young: EDEN and the row, not OLD", 2, () -> x.collect());
        Check.due("young: OLD's stays", 385, () -> x.rooted(0));
        Check.due("young: that of the row", 321, () -> x.rooted(1));
        Check.due("young: that of EDEN", 324, () -> x.rooted(2));
    }

    /* A COLLECTION goes over the roots, 0 first */
    private static void roots0First() {
        NurseryRow x = new NurseryRow();
        for (int root = 15; root >= 0; root--) {
            Sample.rooted(x, root, 0, 0);
        }
        Check.due("roots first: all", 16, () -> x.collect());
        for (int i = 0; i < 16; i++) {
            int root = i;
            Check.due("roots first: root " + root, 321 + 3 * root, () -> x.rooted(root));
        }
    }

    /* then over the fields of the objects that were in OLD when it began: behind root 15, before any copy's */
    private static void thenOld() {
        NurseryRow x = new NurseryRow();
        int old = Sample.inOld(x, 0, 1, 1);
        x.set(old, 0, Sample.marked(x, 0, 3));
        int last = Sample.marked(x, 1, 2);
        x.set(last, 0, Sample.marked(x, 0, 4));
        x.root(15, last);
        x.collect();
        Check.same("then OLD: order", Sample.marks(x), "1:2 1:3 1:4 3:0 ");
    }

    /* by ascending addresses, each one's by ascending numbers */
    private static void oldByAscendingAddresses() {
        NurseryRow x = new NurseryRow();
        int low = Sample.inOld(x, 9, 3, 1);
        int high = Sample.inOld(x, 3, 3, 1);
        x.set(high, 2, Sample.marked(x, 0, 6));
        x.set(low, 2, Sample.marked(x, 0, 3));
        x.set(high, 0, Sample.marked(x, 0, 4));
        x.set(low, 1, Sample.marked(x, 0, 2));
        x.set(low, 0, Sample.marked(x, 0, 1));
        x.set(high, 1, Sample.marked(x, 0, 5));
        x.root(9, 0);
        x.root(3, 0);
        Check.due("OLD: all", 6, () -> x.collect());
        Check.same("OLD: order", Sample.marks(x), "2:1 2:2 2:3 2:4 2:5 2:6 3:0 3:0 ");
    }

    /* the objects that were in OLD when it began: what comes to OLD now has its turn among the copies */
    private static void onlyThoseInOldWhenItBegan() {
        NurseryRow x = new NurseryRow();
        x.space(256, 20, 512);
        int old = Sample.inOld(x, 0, 1, 1);
        int toRow = Sample.marked(x, 1, 1);
        int toOld = x.make(1, 30);
        x.put(toOld, 0, 2);
        x.set(toOld, 0, Sample.marked(x, 0, 4));
        x.set(toRow, 0, Sample.marked(x, 0, 3));
        x.set(old, 0, toOld);
        x.root(1, toRow);
        Check.due("new in OLD: all", 4, () -> x.collect());
        Check.same("new in OLD: order", Sample.marks(x), "1:1 1:3 1:4 3:0 3:2 ");
    }

    /* then over those of the objects that it copied, in the order in which it copied them */
    private static void copiesInTheirOrder() {
        NurseryRow x = new NurseryRow();
        int first = Sample.marked(x, 2, 1);
        int second = Sample.marked(x, 1, 2);
        int third = Sample.marked(x, 1, 3);
        x.set(third, 0, Sample.marked(x, 0, 6));
        x.set(second, 0, Sample.marked(x, 0, 5));
        x.set(first, 1, Sample.marked(x, 0, 4));
        x.set(first, 0, third);
        x.root(0, first);
        x.root(1, second);
        Check.due("copies: all", 6, () -> x.collect());
        Check.same("copies: order", Sample.marks(x), "2:1 2:2 2:3 2:4 2:5 2:6 ");
    }

    /* in the order in which it copied them: those in OLD and those in the row alike, wherever they are */
    private static void copiesInBothPlaces() {
        NurseryRow x = new NurseryRow();
        x.space(256, 20, 512);
        int toOld = x.make(1, 30);
        x.put(toOld, 0, 1);
        int toRow = Sample.marked(x, 1, 2);
        x.set(toRow, 0, Sample.marked(x, 0, 4));
        x.set(toOld, 0, Sample.marked(x, 0, 3));
        x.root(0, toOld);
        x.root(1, toRow);
        Check.due("both places: all", 4, () -> x.collect());
        Check.same("both places: order", Sample.marks(x), "2:2 2:3 2:4 3:1 ");
    }

    /* what tells that tells its copy then; if there is none yet, it is copied at this moment */
    private static void copiedOnce() {
        NurseryRow x = new NurseryRow();
        int old = Sample.inOld(x, 0, 2, 0);
        int a = x.make(2, 0);
        x.set(a, 0, a);
        x.set(a, 1, a);
        x.set(old, 0, a);
        x.set(old, 1, a);
        x.root(1, a);
        x.root(15, a);
        Check.due("once: one copy", 1, () -> x.collect());
        Check.due("once: one object in the row", 1, () -> x.count(1));
        Check.due("once: a root", 257, () -> x.rooted(1));
        Check.due("once: another root", 257, () -> x.rooted(15));
        Check.due("once: OLD's field 0", 257, () -> x.get(old, 0));
        Check.due("once: OLD's field 1", 257, () -> x.get(old, 1));
        Check.due("once: its own field 0", 257, () -> x.get(257, 0));
        Check.due("once: its own field 1", 257, () -> x.get(257, 1));
    }

    /* if its age is below the LIMIT (3 at first) */
    private static void ageBelowTheLimit() {
        NurseryRow x = new NurseryRow();
        Sample.rooted(x, 0, 0, 0);
        for (int i = 1; i <= 3; i++) {
            int age = i;
            x.collect();
            Check.due("age: below 3, so in a row", age % 2 + 1, () -> x.about(x.rooted(0), 3));
            Check.due("age: one more", age, () -> x.about(x.rooted(0), 0));
        }
        x.collect();
        Check.due("age: 3 is not below 3", 385, () -> x.rooted(0));
        Check.due("age: copies in rows", 3, () -> x.count(7));
        Check.due("age: copies in OLD", 1, () -> x.count(8));
        Sample.rooted(x, 1, 0, 0);
        x.collect();
        x.collect();
        x.limit(1);
        x.collect();
        Check.due("age: 2 is not below 1", 388, () -> x.rooted(1));
    }

    /* the least limit, below which no age is */
    private static void limit0() {
        NurseryRow x = new NurseryRow();
        x.limit(0);
        Sample.rooted(x, 0, 0, 0);
        x.collect();
        Check.due("limit 0: straight to OLD", 385, () -> x.rooted(0));
        Check.due("limit 0: none in a row", 0, () -> x.count(7));
        Check.due("limit 0: the rows take turns all the same", 1, () -> x.count(9));
    }

    /* the most limit */
    private static void limit15() {
        NurseryRow x = new NurseryRow();
        x.limit(15);
        Sample.rooted(x, 0, 0, 0);
        for (int i = 0; i < 15; i++) {
            x.collect();
        }
        Check.due("limit 15: age 14 was below it", 321, () -> x.rooted(0));
        x.collect();
        Check.due("limit 15: age 15 was not", 385, () -> x.rooted(0));
        Check.due("limit 15: age", 15, () -> x.about(385, 0));
    }

    /* and there is room for it in the row that is not in use, to there, directly behind the last one there */
    private static void roomInTheRow() {
        NurseryRow x = new NurseryRow();
        x.space(64, 11, 64);
        Sample.rooted(x, 0, 1, 1);
        Sample.rooted(x, 1, 0, 4);
        Sample.rooted(x, 2, 2, 1);
        Sample.rooted(x, 3, 0, 0);
        Check.due("room: all", 4, () -> x.collect());
        Check.due("room: the first one to its first cell", 76, () -> x.rooted(0));
        Check.due("room: one cell too few", 87, () -> x.rooted(1));
        Check.due("room: exactly so many", 81, () -> x.rooted(2));
        Check.due("room: no cell is left", 94, () -> x.rooted(3));
        Check.due("room: the row is full", 11, () -> x.count(4));
    }

    /* rows of 0 cells: none ever finds room there */
    private static void rowOfNoCells() {
        NurseryRow x = new NurseryRow();
        x.space(16, 0, 64);
        Sample.rooted(x, 0, 0, 0);
        Check.due("row of 0: copied", 1, () -> x.collect());
        Check.due("row of 0: OLD begins behind EDEN", 17, () -> x.rooted(0));
        Check.due("row of 0: in OLD", 3, () -> x.about(17, 3));
        Check.due("row of 0: age", 0, () -> x.about(17, 0));
        Check.due("row of 0: the other is in use", 1, () -> x.count(9));
        Check.due("row of 0: none there", 0, () -> x.count(1));
        Check.due("row of 0: next", 17, () -> x.next(0));
    }

    /* rows of 2 cells, one too few for the least object; rows of 3 have room for it */
    private static void rowTooSmallForAny() {
        NurseryRow x = new NurseryRow();
        x.space(16, 2, 64);
        Sample.rooted(x, 0, 0, 0);
        x.collect();
        Check.due("row of 2: to OLD", 21, () -> x.rooted(0));
        x.space(16, 3, 64);
        Sample.rooted(x, 0, 0, 0);
        x.collect();
        Check.due("row of 3: to row 1", 20, () -> x.rooted(0));
    }

    /* Whether there is room is asked for each one: a big one that found none does not close the row */
    private static void aSmallerOneStillFindsRoom() {
        NurseryRow x = new NurseryRow();
        x.space(64, 4, 64);
        Sample.rooted(x, 0, 0, 2);
        Sample.rooted(x, 1, 0, 1);
        x.collect();
        Check.due("smaller: the big one", 73, () -> x.rooted(0));
        Check.due("smaller: the small one", 69, () -> x.rooted(1));
    }

    /* and the copy's age is 1 more */
    private static void copyIs1Older() {
        NurseryRow x = new NurseryRow();
        Sample.rooted(x, 0, 0, 0);
        x.collect();
        Sample.rooted(x, 1, 0, 0);
        x.collect();
        Check.due("older: copied twice", 2, () -> x.about(x.rooted(0), 0));
        Check.due("older: copied once", 1, () -> x.about(x.rooted(1), 0));
    }

    /* otherwise to OLD ... as old as it was: too old for the row, or without room there */
    private static void toOldAsOldAsItWas() {
        NurseryRow x = new NurseryRow();
        x.space(64, 6, 64);
        Sample.rooted(x, 1, 1, 1);
        x.collect();
        Sample.rooted(x, 0, 0, 0);
        x.collect();
        Check.due("as old: pushed out of the row", 3, () -> x.about(x.rooted(1), 3));
        Check.due("as old: age 1", 1, () -> x.about(x.rooted(1), 0));
        x.limit(1);
        x.collect();
        Check.due("as old: too old for the row", 3, () -> x.about(x.rooted(0), 3));
        Check.due("as old: age 1 too", 1, () -> x.about(x.rooted(0), 0));
    }

    /* to OLD, directly behind the last one there (the first one to its first cell) */
    private static void toOldDirectlyBehindTheLastOne() {
        NurseryRow x = new NurseryRow();
        x.limit(0);
        Sample.rooted(x, 0, 1, 3);
        Sample.rooted(x, 1, 0, 0);
        x.collect();
        Check.due("to OLD: its first cell", 385, () -> x.rooted(0));
        Check.due("to OLD: behind that", 392, () -> x.rooted(1));
        x.root(1, 0);
        Sample.rooted(x, 2, 0, 0);
        x.collect();
        Check.due("to OLD: behind what nothing tells", 395, () -> x.rooted(2));
    }

    /* Behind that EDEN and the row that was in use are empty (what was not copied is gone) */
    private static void edenAndTheRowAreEmpty() {
        NurseryRow x = Sample.small();
        x.root(1, 0);
        x.set(37, 0, 0);
        Check.due("empty: copies what is reached", 1, () -> x.collect());
        Check.due("empty: EDEN", 0, () -> x.count(0));
        Check.due("empty: EDEN's cells", 0, () -> x.count(3));
        for (int i = 1; i <= 26; i++) {
            int a = i;
            Check.missing("empty: at " + a, () -> x.about(a, 0));
        }
        Check.due("empty: row 1 is in use", 27, () -> x.next(0));
        Check.due("empty: then OLD", 37, () -> x.next(27));
        Check.due("empty: OLD's last", 0, () -> x.next(37));
    }

    /* A collection without a young object copies none, yet it is one */
    private static void nothingToCopy() {
        NurseryRow x = new NurseryRow();
        Check.due("nothing: no object at all", 0, () -> x.collect());
        Check.due("nothing: one collection", 1, () -> x.count(6));
        Check.due("nothing: row 1 is in use", 1, () -> x.count(9));
        x.make(3, 3);
        Check.due("nothing: none is reached", 0, () -> x.collect());
        Check.due("nothing: two collections", 2, () -> x.count(6));
        Check.due("nothing: all are gone", 0, () -> x.next(0));
        Check.due("nothing: no copies in rows", 0, () -> x.count(7));
        Check.due("nothing: no copies in OLD", 0, () -> x.count(8));
    }

    /* the old ones, which stay where they are */
    private static void whatIsOldStays() {
        NurseryRow x = new NurseryRow();
        int a = Sample.inOld(x, 0, 1, 1);
        int b = Sample.inOld(x, 1, 0, 0);
        x.put(a, 0, -9);
        x.set(a, 0, b);
        x.root(0, 0);
        x.root(1, 0);
        Check.due("stays: none is copied", 0, () -> x.collect());
        Check.due("stays: the first", a, () -> x.next(0));
        Check.due("stays: the second", b, () -> x.next(a));
        Check.due("stays: its field", b, () -> x.get(a, 0));
        Check.due("stays: its word", -9, () -> x.word(a, 0));
        Check.due("stays: its age", 0, () -> x.about(a, 0));
    }

    /** A call that needs an object at an address. */
    private interface CallAt {
        int answer(NurseryRow x, int a);
    }

    /** Below the first cell, every cell, behind the last one: it throws but where an object begins. */
    private static void atEachAddress(String what, CallAt call) {
        NurseryRow x = Sample.small();
        String before = Check.state(x);
        for (int i = -2; i <= 103; i++) {
            int a = i;
            if (!Sample.beginsInSmall(a)) {
                Check.missing("addresses: " + what + " at " + a, () -> call.answer(x, a));
            }
        }
        int[] wild = {Integer.MIN_VALUE, Integer.MIN_VALUE + 1, -37, 10241, Integer.MAX_VALUE - 1, Integer.MAX_VALUE};
        for (int a : wild) {
            Check.missing("addresses: " + what + " at " + a, () -> call.answer(x, a));
        }
        Check.same("addresses: " + what + " changes nothing", Check.state(x), before);
    }

    /* NoSuchElementException: no object that is there begins at an address ... Such a call changes nothing. */
    private static void addressesWhereNoObjectBegins() {
        atEachAddress("set", (x, a) -> x.set(a, 0, 37));
        atEachAddress("set to", (x, a) -> a == 0 ? x.get(0, 0) : x.set(37, 0, a));
        atEachAddress("get", (x, a) -> x.get(a, 0));
        atEachAddress("put", (x, a) -> x.put(a, 0, 5));
        atEachAddress("word", (x, a) -> x.word(a, 0));
        atEachAddress("root", (x, a) -> a == 0 ? x.get(0, 0) : x.root(0, a));
        atEachAddress("about", (x, a) -> x.about(a, 0));
        atEachAddress("next", (x, a) -> a == 0 ? x.get(0, 0) : x.next(a));
    }

    /* no object that is there: not one that was there before a collection, nor before space */
    private static void goneObjects() {
        NurseryRow x = new NurseryRow();
        Sample.rooted(x, 0, 1, 1);
        x.collect();
        Check.missing("gone: copied from EDEN", () -> x.get(1, 0));
        x.collect();
        Check.missing("gone: copied from row 1", () -> x.get(321, 0));
        x.limit(0);
        x.collect();
        Check.missing("gone: copied from row 0", () -> x.get(257, 0));
        x.space(256, 64, 2048);
        Check.missing("gone: with space", () -> x.get(385, 0));
    }
}
