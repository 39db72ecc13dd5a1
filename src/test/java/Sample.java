/** What several tests make of an object before they ask it. */
final class Sample {
    private Sample() {
    }

    /** Marks an object by its word 0, so that its copy can be told from others. */
    static int marked(NurseryRow x, int fields, int mark) {
        int a = x.make(fields, 1);
        x.put(a, 0, mark);
        return a;
    }

    /** Where each object is, and its mark, by ascending addresses. */
    static String marks(NurseryRow x) {
        StringBuilder text = new StringBuilder();
        for (int a = x.next(0); a != 0; a = x.next(a)) {
            text.append(x.about(a, 3)).append(':').append(x.word(a, 0)).append(' ');
        }
        return text.toString();
    }

    /** Makes an object that a root tells. */
    static int rooted(NurseryRow x, int root, int fields, int words) {
        int a = x.make(fields, words);
        x.root(root, a);
        return a;
    }

    /** Makes an object that a root tells, and has it copied to OLD: the rows take turns once. */
    static int inOld(NurseryRow x, int root, int fields, int words) {
        int was = x.limit(0);
        rooted(x, root, fields, words);
        x.collect();
        x.limit(was);
        return x.rooted(root);
    }

    /**
     * 16 cells in EDEN, 10 in each row, 64 in OLD, so 1 .. 16, 17 .. 26, 27 .. 36, 37 .. 100; objects at 1 and 5
     * in EDEN, 17 in row 0, which is in use, 37 in OLD: each with a field and, but for that at 1, a word.
     */
    static NurseryRow small() {
        NurseryRow x = new NurseryRow();
        x.space(16, 10, 64);
        inOld(x, 0, 1, 1);
        rooted(x, 1, 1, 1);
        x.collect();
        x.make(1, 0);
        x.make(1, 1);
        x.set(37, 0, 17);
        x.set(17, 0, 37);
        x.put(17, 0, 17);
        x.root(2, 5);
        return x;
    }

    static boolean beginsInSmall(int a) {
        return a == 1 || a == 5 || a == 17 || a == 37;
    }
}
