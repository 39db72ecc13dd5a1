/** One method for each promise: ordinary inputs, the edges that the document names, wrong inputs. */
public final class PromisesTest {
    private static final int LOWEST = Integer.MIN_VALUE;
    private static final int HIGHEST = Integer.MAX_VALUE;

    private PromisesTest() {
    }

    public static void main(String[] args) {
        newObject();
        space();
        spaceAtItsEdges();
        spaceUpToItsLastCell();
        spaceClearsAll();
        limit();
        make();
        makeWhereObjectsWere();
        set();
        get();
        put();
        word();
        root();
        rooted();
        collectOrder();
        collectOrderOfCopies();
        collectByAge();
        collectByRoom();
        collectFromOld();
        collectCycles();
        collectRefused();
        collectMany();
        collectLongChain();
        collectMostThatCanBeYoung();
        about();
        next();
        count();
        Check.end();
    }

    private static void newObject() {
        NurseryRow x = new NurseryRow();
        Check.due("1: next of none", 0, () -> x.next(0));
        for (int i = 0; i <= 9; i++) {
            int what = i;
            Check.due("1: count " + what, 0, () -> x.count(what));
        }
        for (int i = 0; i < 16; i++) {
            int root = i;
            Check.due("1: root " + root, 0, () -> x.rooted(root));
        }
        Check.missing("1: nothing at 1", () -> x.about(1, 0));
        Check.due("1: collects nothing", 0, () -> x.collect());
        Check.due("1: limit is 3", 3, () -> x.limit(3));
        Check.due("1: cells", 256 + 2 * 64 + 2048, () -> x.space(16, 0, 64));
    }

    private static void space() {
        NurseryRow x = new NurseryRow();
        Check.due("2: at first", 2432, () -> x.space(20, 7, 100));
        Check.due("2: then", 20 + 14 + 100, () -> x.space(30, 8, 90));
        x.make(0, 0);
        x.root(0, 1);
        x.collect();
        Check.due("2: row 1 lies behind row 0", 30 + 8 + 1, () -> x.rooted(0));
        x.collect();
        Check.due("2: row 0 lies behind EDEN", 30 + 1, () -> x.rooted(0));
        x.limit(0);
        x.collect();
        Check.due("2: OLD lies behind row 1", 30 + 16 + 1, () -> x.rooted(0));
        String before = Check.state(x);
        Check.refused("2: eden 15", () -> x.space(15, 8, 90));
        Check.refused("2: eden 1025", () -> x.space(1025, 8, 90));
        Check.refused("2: eden -1", () -> x.space(-1, 8, 90));
        Check.refused("2: row -1", () -> x.space(30, -1, 90));
        Check.refused("2: row 513", () -> x.space(30, 513, 90));
        Check.refused("2: old 63", () -> x.space(30, 8, 63));
        Check.refused("2: old 8193", () -> x.space(30, 8, 8193));
        Check.refused("2: highest", () -> x.space(HIGHEST, HIGHEST, HIGHEST));
        Check.refused("2: lowest", () -> x.space(LOWEST, LOWEST, LOWEST));
        Check.same("2: a refused space", Check.state(x), before);
        Check.due("2: a refused space keeps the cells", 30 + 16 + 90, () -> x.space(16, 0, 64));
    }

    private static void spaceAtItsEdges() {
        NurseryRow x = new NurseryRow();
        Check.due("2: most", 2432, () -> x.space(1024, 512, 8192));
        Check.due("2: fills EDEN", 1, () -> x.make(200, 200));
        Check.due("2: fills EDEN", 404, () -> x.make(200, 200));
        Check.due("2: fills EDEN", 807, () -> x.make(15, 200));
        Check.due("2: EDEN is full", 0, () -> x.make(0, 0));
        x.put(807, 199, 5);
        x.root(0, 807);
        x.root(1, 404);
        Check.due("2: collects", 2, () -> x.collect());
        Check.due("2: first in row 1", 1024 + 512 + 1, () -> x.rooted(0));
        Check.due("2: second in OLD", 1024 + 1024 + 1, () -> x.rooted(1));
        Check.due("2: its last word", 5, () -> x.word(1537, 199));
        Check.due("2: least", 1024 + 1024 + 8192, () -> x.space(16, 0, 64));
        Check.due("2: room for 16", 1, () -> x.make(6, 7));
        Check.due("2: no room", 0, () -> x.make(0, 0));
        Check.due("2: most again", 16 + 64, () -> x.space(1024, 512, 8192));
        Check.due("2: one more than least", 10240, () -> x.space(17, 1, 65));
        Check.due("2: and back", 17 + 2 + 65, () -> x.space(16, 0, 64));
    }

    /** One cell more in all than at first, and every cell of OLD taken. */
    private static void spaceUpToItsLastCell() {
        NurseryRow x = new NurseryRow();
        x.limit(0);
        x.space(401, 0, 2032);
        for (int i = 0; i < 5; i++) {
            x.root(i, x.make(198, 200));
            x.collect();
        }
        x.root(5, x.make(0, 24));
        x.put(1, 23, 77);
        Check.due("2: the last one that fits", 1, () -> x.collect());
        Check.due("2: OLD is full", 2032, () -> x.count(5));
        Check.due("2: its address", 2433 - 26, () -> x.rooted(5));
        Check.due("2: the last cell", 77, () -> x.word(2433 - 26, 23));
        Check.due("2: all cells", 2433, () -> x.space(16, 0, 64));
    }

    private static void spaceClearsAll() {
        NurseryRow x = new NurseryRow();
        x.limit(1);
        x.make(1, 1);
        x.make(0, 0);
        x.root(0, 1);
        x.root(15, 6);
        x.collect();
        x.collect();
        x.make(0, 0);
        x.root(1, 1);
        x.collect();
        Check.due("2: row 1 is in use before", 1, () -> x.count(9));
        Check.due("2: with the same sizes", 2432, () -> x.space(256, 64, 2048));
        NurseryRow fresh = new NurseryRow();
        fresh.limit(1);
        Check.same("2: all goes but the limit", Check.state(x), Check.state(fresh));
        Check.missing("2: what was there is gone", () -> x.about(385, 0));
        Check.due("2: the limit stays", 1, () -> x.limit(2));
        Check.due("2: EDEN begins anew", 1, () -> x.make(0, 0));
        x.root(0, 1);
        x.collect();
        Check.due("2: row 0 was in use", 321, () -> x.rooted(0));
    }

    private static void limit() {
        NurseryRow x = new NurseryRow();
        Check.due("3: at first", 3, () -> x.limit(0));
        Check.due("3: least", 0, () -> x.limit(15));
        Check.due("3: most", 15, () -> x.limit(7));
        Check.refused("3: -1", () -> x.limit(-1));
        Check.refused("3: 16", () -> x.limit(16));
        Check.refused("3: highest", () -> x.limit(HIGHEST));
        Check.refused("3: lowest", () -> x.limit(LOWEST));
        Check.due("3: refused ones change nothing", 7, () -> x.limit(15));
        x.make(0, 0);
        x.root(0, 1);
        for (int i = 0; i < 15; i++) {
            x.collect();
        }
        Check.due("3: 15 times in rows", 15, () -> x.count(7));
        Check.due("3: age 15", 15, () -> x.about(x.rooted(0), 0));
        x.collect();
        Check.due("3: then old", 3, () -> x.about(x.rooted(0), 3));
        Check.due("3: as old as it was", 15, () -> x.about(x.rooted(0), 0));
    }

    private static void make() {
        NurseryRow x = new NurseryRow();
        Check.due("4: first", 1, () -> x.make(2, 3));
        Check.due("4: behind it", 9, () -> x.make(0, 0));
        Check.due("4: behind that", 12, () -> x.make(200, 0));
        Check.due("4: no room", 0, () -> x.make(0, 40));
        Check.due("4: what has no room changes nothing", 3, () -> x.count(0));
        Check.due("4: the last cells", 215, () -> x.make(0, 39));
        Check.due("4: full", 0, () -> x.make(0, 0));
        Check.due("4: more than EDEN has", 0, () -> x.make(200, 200));
        Check.refused("4: fields -1", () -> x.make(-1, 0));
        Check.refused("4: fields 201", () -> x.make(201, 0));
        Check.refused("4: words -1", () -> x.make(0, -1));
        Check.refused("4: words 201", () -> x.make(0, 201));
        Check.refused("4: highest", () -> x.make(HIGHEST, HIGHEST));
        Check.refused("4: sum wraps", () -> x.make(HIGHEST, LOWEST));
        Check.due("4: refused ones make none", 4, () -> x.count(0));
        Check.due("4: refused ones take no cells", 256, () -> x.count(3));
    }

    private static void makeWhereObjectsWere() {
        NurseryRow x = new NurseryRow();
        x.make(2, 2);
        x.set(1, 0, 1);
        x.set(1, 1, 1);
        x.put(1, 0, -1);
        x.put(1, 1, -1);
        x.collect();
        Check.due("4: EDEN begins anew", 1, () -> x.make(2, 2));
        Check.due("4: age 0", 0, () -> x.about(1, 0));
        Check.due("4: field 0 is nothing", 0, () -> x.get(1, 0));
        Check.due("4: field 1 is nothing", 0, () -> x.get(1, 1));
        Check.due("4: word 0 is 0", 0, () -> x.word(1, 0));
        Check.due("4: word 1 is 0", 0, () -> x.word(1, 1));
    }

    private static NurseryRow twoObjects() {
        NurseryRow x = new NurseryRow();
        x.make(2, 2);
        x.make(0, 1);
        return x;
    }

    private static void set() {
        NurseryRow x = twoObjects();
        Check.due("5: was nothing", 0, () -> x.set(1, 1, 8));
        Check.due("5: was 8", 8, () -> x.set(1, 1, 1));
        Check.due("5: was itself", 1, () -> x.set(1, 1, 0));
        Check.due("5: was nothing again", 0, () -> x.set(1, 1, 8));
        Check.due("5: the other field", 0, () -> x.set(1, 0, 0));
        String before = Check.state(x);
        Check.missing("5: a 0", () -> x.set(0, 0, 0));
        Check.missing("5: a inside", () -> x.set(2, 0, 0));
        Check.missing("5: a behind all", () -> x.set(12, 0, 0));
        Check.missing("5: a negative", () -> x.set(-1, 0, 0));
        Check.missing("5: a highest", () -> x.set(HIGHEST, 0, 0));
        Check.missing("5: a lowest", () -> x.set(LOWEST, 0, 0));
        Check.missing("5: field -1", () -> x.set(1, -1, 0));
        Check.missing("5: field 2", () -> x.set(1, 2, 0));
        Check.missing("5: field highest", () -> x.set(1, HIGHEST, 0));
        Check.missing("5: no fields", () -> x.set(8, 0, 0));
        Check.missing("5: b inside", () -> x.set(1, 0, 9));
        Check.missing("5: b behind all", () -> x.set(1, 0, 12));
        Check.missing("5: b negative", () -> x.set(1, 0, -8));
        Check.missing("5: b highest", () -> x.set(1, 0, HIGHEST));
        Check.same("5: wrong ones", Check.state(x), before);
    }

    private static void get() {
        NurseryRow x = twoObjects();
        x.set(1, 0, 8);
        x.set(1, 1, 1);
        x.put(1, 0, 99);
        Check.due("6: field 0", 8, () -> x.get(1, 0));
        Check.due("6: field 1", 1, () -> x.get(1, 1));
        Check.missing("6: field 2", () -> x.get(1, 2));
        Check.missing("6: field -1", () -> x.get(1, -1));
        Check.missing("6: field lowest", () -> x.get(1, LOWEST));
        Check.missing("6: no fields", () -> x.get(8, 0));
        Check.missing("6: a 0", () -> x.get(0, 0));
        Check.missing("6: a inside", () -> x.get(4, 0));
        Check.missing("6: a highest", () -> x.get(HIGHEST, 0));
        x.put(1, 0, 1);
        Check.missing("6: a cell that looks like an object", () -> x.get(6, 0));
    }

    private static void put() {
        NurseryRow x = twoObjects();
        Check.due("7: was 0", 0, () -> x.put(1, 1, HIGHEST));
        Check.due("7: was highest", HIGHEST, () -> x.put(1, 1, LOWEST));
        Check.due("7: was lowest", LOWEST, () -> x.put(1, 1, -5));
        Check.due("7: another word", 0, () -> x.put(1, 0, 1));
        Check.due("7: another object", 0, () -> x.put(8, 0, 1));
        String before = Check.state(x);
        Check.missing("7: word 2", () -> x.put(1, 2, 1));
        Check.missing("7: word -1", () -> x.put(1, -1, 1));
        Check.missing("7: word highest", () -> x.put(1, HIGHEST, 1));
        Check.missing("7: word lowest", () -> x.put(1, LOWEST, 1));
        Check.missing("7: word 1 of one", () -> x.put(8, 1, 1));
        Check.missing("7: a 0", () -> x.put(0, 0, 1));
        Check.missing("7: a inside", () -> x.put(2, 0, 1));
        Check.missing("7: a behind all", () -> x.put(12, 0, 1));
        Check.same("7: wrong ones", Check.state(x), before);
    }

    private static void word() {
        NurseryRow x = twoObjects();
        x.set(1, 1, 8);
        x.put(1, 0, 7);
        x.put(1, 1, -7);
        x.put(8, 0, 6);
        Check.due("8: word 0", 7, () -> x.word(1, 0));
        Check.due("8: word 1", -7, () -> x.word(1, 1));
        Check.due("8: of another", 6, () -> x.word(8, 0));
        Check.due("8: the field stands", 8, () -> x.get(1, 1));
        Check.missing("8: word 2", () -> x.word(1, 2));
        Check.missing("8: word -1", () -> x.word(1, -1));
        Check.missing("8: word lowest", () -> x.word(1, LOWEST));
        Check.missing("8: a 0", () -> x.word(0, 0));
        Check.missing("8: a inside", () -> x.word(7, 0));
        Check.missing("8: a negative", () -> x.word(-1, 0));
    }

    private static void root() {
        NurseryRow x = twoObjects();
        Check.due("9: was nothing", 0, () -> x.root(0, 8));
        Check.due("9: was 8", 8, () -> x.root(0, 1));
        Check.due("9: was 1", 1, () -> x.root(0, 0));
        Check.due("9: the last", 0, () -> x.root(15, 8));
        String before = Check.state(x);
        Check.missing("9: root 16", () -> x.root(16, 0));
        Check.missing("9: root -1", () -> x.root(-1, 0));
        Check.missing("9: root highest", () -> x.root(HIGHEST, 0));
        Check.missing("9: root lowest", () -> x.root(LOWEST, 0));
        Check.missing("9: a inside", () -> x.root(0, 2));
        Check.missing("9: a behind all", () -> x.root(0, 12));
        Check.missing("9: a negative", () -> x.root(0, -1));
        Check.missing("9: a highest", () -> x.root(0, HIGHEST));
        Check.same("9: wrong ones", Check.state(x), before);
    }

    private static void rooted() {
        NurseryRow x = twoObjects();
        x.root(0, 1);
        x.root(15, 8);
        Check.due("10: root 0", 1, () -> x.rooted(0));
        Check.due("10: root 1", 0, () -> x.rooted(1));
        Check.due("10: root 15", 8, () -> x.rooted(15));
        Check.missing("10: root 16", () -> x.rooted(16));
        Check.missing("10: root -1", () -> x.rooted(-1));
        Check.missing("10: root highest", () -> x.rooted(HIGHEST));
        Check.missing("10: root lowest", () -> x.rooted(LOWEST));
    }

    private static void collectOrder() {
        NurseryRow x = new NurseryRow();
        int old = Sample.marked(x, 2, 1);
        x.root(0, old);
        x.limit(0);
        x.collect();
        x.limit(3);
        int byOldFirst = Sample.marked(x, 0, 2);
        int byOldSecond = Sample.marked(x, 0, 3);
        int byRoot9 = Sample.marked(x, 1, 4);
        int byCopy = Sample.marked(x, 0, 5);
        int byRoot2 = Sample.marked(x, 0, 6);
        Sample.marked(x, 1, 7);
        x.set(385, 1, byOldSecond);
        x.set(385, 0, byOldFirst);
        x.root(9, byRoot9);
        x.set(byRoot9, 0, byCopy);
        x.root(2, byRoot2);
        Check.due("11: copies the reached", 5, () -> x.collect());
        Check.same("11: roots, then OLD, then copies", Sample.marks(x), "1:6 1:4 1:2 1:3 1:5 3:1 ");
        Check.due("11: root 0 stays", 385, () -> x.rooted(0));
        Check.due("11: root 2", 257, () -> x.rooted(2));
        Check.due("11: root 9", 261, () -> x.rooted(9));
        Check.due("11: OLD's field 0", 266, () -> x.get(385, 0));
        Check.due("11: OLD's field 1", 270, () -> x.get(385, 1));
        Check.due("11: a copy's field", 274, () -> x.get(261, 0));
        Check.due("11: EDEN is empty", 0, () -> x.count(0));
        Check.missing("11: no object at 1", () -> x.about(1, 0));
    }

    /** Copies in the row and in OLD are gone over as they were copied, not by where they are. */
    private static void collectOrderOfCopies() {
        NurseryRow x = new NurseryRow();
        x.space(256, 20, 512);
        int big = Sample.marked(x, 1, 1);
        int large = x.make(1, 30);
        x.put(large, 0, 2);
        int last = Sample.marked(x, 1, 3);
        int ofBig = Sample.marked(x, 0, 4);
        int ofLarge = Sample.marked(x, 0, 5);
        int ofLast = Sample.marked(x, 0, 6);
        x.set(big, 0, ofBig);
        x.set(large, 0, ofLarge);
        x.set(last, 0, ofLast);
        x.root(0, big);
        x.root(1, large);
        x.root(2, last);
        Check.due("11: six", 6, () -> x.collect());
        Check.same("11: by the order of copying", Sample.marks(x), "2:1 2:3 2:4 2:5 3:2 3:6 ");
    }

    private static void collectByAge() {
        NurseryRow x = new NurseryRow();
        Sample.marked(x, 0, 1);
        x.root(4, 1);
        x.collect();
        x.collect();
        Check.due("11: age 2", 2, () -> x.about(257, 0));
        x.limit(1);
        x.collect();
        Check.due("11: not below the limit", 385, () -> x.rooted(4));
        Check.due("11: as old as it was", 2, () -> x.about(385, 0));
        x.limit(15);
        Check.due("11: what is old stays", 0, () -> x.collect());
        Check.due("11: where it is", 385, () -> x.rooted(4));
        x.limit(0);
        Sample.marked(x, 0, 2);
        x.root(5, 1);
        x.collect();
        Check.due("11: behind the last one there", 389, () -> x.rooted(5));
        Check.due("11: age 0", 0, () -> x.about(389, 0));
    }

    private static void collectByRoom() {
        NurseryRow x = new NurseryRow();
        x.space(64, 10, 64);
        Sample.marked(x, 0, 1);
        x.make(0, 4);
        x.make(0, 3);
        x.make(0, 0);
        x.root(0, 1);
        x.root(1, 5);
        x.root(2, 12);
        x.root(3, 18);
        Check.due("11: four", 4, () -> x.collect());
        Check.due("11: the row's first cell", 75, () -> x.rooted(0));
        Check.due("11: finds no room", 85, () -> x.rooted(1));
        Check.due("11: as young as it was", 0, () -> x.about(85, 0));
        Check.due("11: the row's last cells", 79, () -> x.rooted(2));
        Check.due("11: the row is full", 92, () -> x.rooted(3));
        Check.due("11: in rows", 2, () -> x.count(7));
        Check.due("11: in OLD", 2, () -> x.count(8));
        Check.due("11: the rows take turns", 2, () -> x.collect());
        Check.due("11: row 0's first cell", 65, () -> x.rooted(0));
        Check.due("11: behind it", 69, () -> x.rooted(2));
        Check.missing("11: row 1 is empty", () -> x.about(75, 0));
    }

    /** What is old is kept, and keeps what it tells, even if nothing tells it. */
    private static void collectFromOld() {
        NurseryRow x = new NurseryRow();
        x.limit(0);
        Sample.marked(x, 1, 1);
        x.root(0, 1);
        x.collect();
        x.limit(3);
        x.root(0, 0);
        Sample.marked(x, 0, 2);
        x.set(385, 0, 1);
        Check.due("11: told by OLD alone", 1, () -> x.collect());
        Check.due("11: its copy is told", 257, () -> x.get(385, 0));
        x.collect();
        x.collect();
        x.collect();
        Check.due("11: told in OLD", 390, () -> x.get(385, 0));
        Check.due("11: its word", 2, () -> x.word(390, 0));
    }

    private static void collectCycles() {
        NurseryRow x = new NurseryRow();
        x.make(2, 0);
        x.make(2, 0);
        x.set(1, 0, 6);
        x.set(1, 1, 1);
        x.set(6, 0, 1);
        x.set(6, 1, 6);
        x.root(0, 6);
        x.root(1, 6);
        Check.due("11: each once", 2, () -> x.collect());
        Check.due("11: root 0", 321, () -> x.rooted(0));
        Check.due("11: root 1", 321, () -> x.rooted(1));
        Check.due("11: field", 326, () -> x.get(321, 0));
        Check.due("11: field to itself", 321, () -> x.get(321, 1));
        Check.due("11: field back", 321, () -> x.get(326, 0));
        Check.due("11: field to itself", 326, () -> x.get(326, 1));
        x.root(0, 0);
        x.root(1, 0);
        Check.due("11: a ring that nothing tells goes", 0, () -> x.collect());
        Check.due("11: all are gone", 0, () -> x.next(0));
    }

    private static void collectRefused() {
        NurseryRow x = new NurseryRow();
        x.space(100, 20, 64);
        x.make(0, 7);
        x.root(0, 1);
        x.collect();
        x.make(0, 51);
        Check.due("11: as much as OLD has is enough", 1, () -> x.collect());
        x.make(0, 51);
        x.make(0, 0);
        String before = Check.state(x);
        Check.notNow("11: though none of EDEN is reached", () -> x.collect());
        Check.same("11: a refused one", Check.state(x), before);
        x.space(100, 20, 64);
        x.limit(0);
        x.make(0, 61);
        x.root(0, 1);
        Check.due("11: fills OLD", 1, () -> x.collect());
        Check.due("11: OLD is full, but none is young", 0, () -> x.collect());
        x.make(0, 0);
        Check.notNow("11: the least young one", () -> x.collect());
    }

    /** An object in OLD for each count of fields, told by root 0, 1 and so on. */
    private static void oldHolders(NurseryRow x, int... fields) {
        int was = x.limit(0);
        for (int i = 0; i < fields.length; i++) {
            x.root(i, x.make(fields[i], 0));
        }
        x.collect();
        x.limit(was);
    }

    private static void fill(NurseryRow x, int holder, int from, int to) {
        for (int i = from; i < to; i++) {
            x.set(holder, i, x.make(0, 0));
        }
    }

    /** Nearly as many as 512 calls can make and have told. */
    private static void collectMany() {
        NurseryRow x = new NurseryRow();
        x.space(1024, 512, 8192);
        oldHolders(x, 200, 40);
        int holder = x.rooted(0);
        int other = x.rooted(1);
        fill(x, holder, 0, 200);
        fill(x, other, 0, 40);
        Check.due("11: many", 240, () -> x.collect());
        Check.due("11: in the row", 170, () -> x.count(1));
        Check.due("11: in OLD, the two that tell them too", 2 + 70, () -> x.count(2));
        Check.due("11: the last one in the row", 1025 + 3 * 169, () -> x.get(holder, 169));
        Check.due("11: the first one in OLD", 2049 + 203 + 43, () -> x.get(holder, 170));
        Check.due("11: the last one in OLD", 2049 + 203 + 43 + 3 * 69, () -> x.get(other, 39));
        x.limit(0);
        Check.due("11: and on", 170, () -> x.collect());
        Check.due("11: all in OLD", 242, () -> x.count(2));
    }

    /** Each one is told by the one before it alone, so each copy leads to one copy more. */
    private static void collectLongChain() {
        NurseryRow x = new NurseryRow();
        x.space(1024, 512, 8192);
        x.root(0, x.make(1, 0));
        for (int a = 1; a < 997; a += 4) {
            x.set(a, 0, x.make(1, 0));
        }
        Check.due("11: a chain", 250, () -> x.collect());
        Check.due("11: in the row", 128, () -> x.count(1));
        Check.due("11: in OLD", 122, () -> x.count(2));
        Check.due("11: from the row to OLD", 2049, () -> x.get(1537 + 4 * 127, 0));
        Check.due("11: the one before the last", 2049 + 4 * 121, () -> x.get(2049 + 4 * 120, 0));
        Check.due("11: the last", 0, () -> x.get(2049 + 4 * 121, 0));
    }

    /** More calls than the document answers for: what they answer is free, yet the machine must not throw. */
    private static void collectMostThatCanBeYoung() {
        NurseryRow x = new NurseryRow();
        x.space(1024, 512, 8192);
        oldHolders(x, 200, 200);
        oldHolders(x, 200);
        int first = x.next(0);
        int second = x.next(first);
        int third = x.next(second);
        fill(x, first, 0, 170);
        x.collect();
        fill(x, first, 170, 200);
        fill(x, second, 0, 200);
        fill(x, third, 0, 111);
        Check.answers("11: make when all cells are taken", () -> x.make(0, 0));
        Check.answers("11: collect when all are young that can be", () -> x.collect());
        Check.answers("11: and again", () -> x.collect());
    }

    private static void about() {
        NurseryRow x = new NurseryRow();
        x.make(2, 5);
        x.root(0, 1);
        Check.due("12: age", 0, () -> x.about(1, 0));
        Check.due("12: fields", 2, () -> x.about(1, 1));
        Check.due("12: words", 5, () -> x.about(1, 2));
        Check.due("12: EDEN", 0, () -> x.about(1, 3));
        x.collect();
        Check.due("12: age 1", 1, () -> x.about(321, 0));
        Check.due("12: fields of a copy", 2, () -> x.about(321, 1));
        Check.due("12: words of a copy", 5, () -> x.about(321, 2));
        Check.due("12: ROW 1", 2, () -> x.about(321, 3));
        x.collect();
        Check.due("12: ROW 0", 1, () -> x.about(257, 3));
        x.collect();
        x.collect();
        Check.due("12: OLD", 3, () -> x.about(385, 3));
        Check.due("12: age 3", 3, () -> x.about(385, 0));
        Check.refused("12: what 4", () -> x.about(385, 4));
        Check.refused("12: what -1", () -> x.about(385, -1));
        Check.refused("12: what highest", () -> x.about(385, HIGHEST));
        Check.missing("12: a inside", () -> x.about(386, 0));
        Check.missing("12: a 0", () -> x.about(0, 0));
        Check.missing("12: a lowest", () -> x.about(LOWEST, 0));
        Check.missing("12: a highest", () -> x.about(HIGHEST, 0));
        Check.missing("12: both wrong", () -> x.about(1, 4));
    }

    private static void next() {
        NurseryRow x = new NurseryRow();
        Check.due("13: none", 0, () -> x.next(0));
        x.make(0, 0);
        x.make(1, 1);
        Check.due("13: first", 1, () -> x.next(0));
        Check.due("13: second", 4, () -> x.next(1));
        Check.due("13: no third", 0, () -> x.next(4));
        x.root(0, 1);
        x.root(1, 4);
        x.limit(0);
        x.collect();
        Check.due("13: first in OLD", 385, () -> x.next(0));
        x.limit(3);
        x.make(0, 0);
        x.make(0, 0);
        x.root(2, 1);
        x.root(3, 4);
        x.collect();
        Check.due("13: first in row 0", 257, () -> x.next(0));
        x.make(0, 0);
        Check.due("13: first in EDEN", 1, () -> x.next(0));
        Check.due("13: from EDEN to the row", 257, () -> x.next(1));
        Check.due("13: in the row", 260, () -> x.next(257));
        Check.due("13: from the row to OLD", 385, () -> x.next(260));
        Check.due("13: in OLD", 388, () -> x.next(385));
        Check.due("13: behind all", 0, () -> x.next(388));
        Check.missing("13: inside", () -> x.next(2));
        Check.missing("13: behind the last of EDEN", () -> x.next(4));
        Check.missing("13: the row not in use", () -> x.next(321));
        Check.missing("13: -1", () -> x.next(-1));
        Check.missing("13: highest", () -> x.next(HIGHEST));
        Check.missing("13: lowest", () -> x.next(LOWEST));
        x.collect();
        Check.due("13: first in row 1", 321, () -> x.next(0));
        x.root(2, 0);
        x.root(3, 0);
        x.collect();
        x.make(0, 0);
        Check.due("13: from EDEN to OLD", 385, () -> x.next(1));
    }

    private static void counts(String when, NurseryRow x, int... want) {
        for (int i = 0; i < want.length; i++) {
            int what = i;
            Check.due("14: count " + what + " " + when, want[i], () -> x.count(what));
        }
    }

    private static void count() {
        NurseryRow x = new NurseryRow();
        x.make(1, 2);
        x.make(0, 0);
        x.make(0, 70);
        counts("of EDEN", x, 3, 0, 0, 82, 0, 0, 0, 0, 0, 0);
        x.root(0, 1);
        x.root(1, 7);
        x.root(2, 10);
        x.collect();
        counts("behind one", x, 0, 2, 1, 0, 9, 73, 1, 2, 1, 1);
        x.root(1, 0);
        x.make(0, 1);
        x.collect();
        counts("behind two", x, 0, 1, 1, 0, 6, 73, 2, 3, 1, 0);
        x.make(0, 1);
        x.limit(0);
        x.collect();
        counts("behind three", x, 0, 0, 2, 0, 0, 79, 3, 3, 2, 1);
        Check.refused("14: 10", () -> x.count(10));
        Check.refused("14: -1", () -> x.count(-1));
        Check.refused("14: highest", () -> x.count(HIGHEST));
        Check.refused("14: lowest", () -> x.count(LOWEST));
    }
}
