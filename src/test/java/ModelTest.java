/** Runs of drawn calls, wild ones among them, then the whole state: each answer compared with the model's. */
public final class ModelTest {
    private static final int RUNS = 6000;
    /** What an object answers behind these is free, so nothing is asked then. */
    private static final int CALLS = 512;
    private static final int[] WILD = {
        0, -1, 1, 2, 3, 4, 15, 16, 63, 64, 200, 201, 257, 321, 385, 1024, 1025, 8192, 8193, 10240, 10241,
        Integer.MAX_VALUE, Integer.MIN_VALUE, Integer.MAX_VALUE - 2, -385};

    private final NurseryRow own = new NurseryRow();
    private final Model model = new Model();
    private final int run;
    private long seed;
    private int calls;

    private ModelTest(int run) {
        this.run = run;
        this.seed = 7919L * run + 17;
    }

    public static void main(String[] args) {
        for (int run = 0; run < RUNS && !Check.anyWrong(); run++) {
            new ModelTest(run).go();
        }
        Check.end();
    }

    private int draw(int below) {
        seed = seed * 6364136223846793005L + 1442695040888963407L;
        return (int) ((seed >>> 33) % below);
    }

    private int wild() {
        return WILD[draw(WILD.length)];
    }

    private boolean rarely() {
        return draw(40) == 0;
    }

    /** Mostly an object that is there, now and then nothing, any number, or a cell inside. */
    private int someObject() {
        if (rarely()) {
            return wild();
        }
        int all = model.count(0) + model.count(1) + model.count(2);
        int steps = draw(all + 1);
        int a = 0;
        for (int i = 0; i < steps; i++) {
            a = model.next(a);
        }
        return rarely() ? a + 1 + draw(3) : a;
    }

    private int index(int a, int what) {
        if (rarely()) {
            return wild();
        }
        int length = a > 0 && !Check.outcome(() -> model.about(a, 0)).contains(".") ? model.about(a, what) : 0;
        return draw(length + (draw(10) == 0 ? 2 : 0) + (length == 0 ? 1 : 0));
    }

    private void both(String call, Check.Call ours, Check.Call theirs) {
        if (calls == CALLS) {
            return;
        }
        calls++;
        Check.same("run " + run + ": " + call, Check.outcome(ours), Check.outcome(theirs));
    }

    private void go() {
        if (run % 4 != 0) {
            space(16 + draw(run % 4 == 1 ? 60 : 1009), draw(run % 4 == 2 ? 513 : 60), 64 + draw(8129));
        }
        if (run % 3 == 0) {
            limit(draw(16));
        }
        // Runs of each length, as the state that one ends in is looked at where it still answers.
        int steps = run % CALLS;
        for (int i = 0; i < steps && !Check.anyWrong(); i++) {
            step(draw(100));
        }
        wholeState();
    }

    private void step(int which) {
        if (which < 25) {
            make();
        } else if (which < 45) {
            set();
        } else if (which < 55) {
            put();
        } else if (which < 68) {
            root();
        } else if (which < 75) {
            both("collect()", () -> own.collect(), () -> model.collect());
        } else if (which < 98) {
            ask(which % 6);
        } else if (which == 98) {
            limit(rarely() ? wild() : draw(17));
        } else if (draw(6) == 0) {
            space(draw(2) == 0 ? wild() : 16 + draw(200), draw(2) == 0 ? wild() : draw(80), 64 + draw(600));
        }
    }

    private void space(int eden, int row, int old) {
        both("space(" + eden + ", " + row + ", " + old + ")",
                () -> own.space(eden, row, old), () -> model.space(eden, row, old));
    }

    private void limit(int n) {
        both("limit(" + n + ")", () -> own.limit(n), () -> model.limit(n));
    }

    private void make() {
        int most = run % 5 == 0 ? 40 : 6;
        int fields = rarely() ? wild() : draw(most);
        int words = rarely() ? wild() : draw(most);
        both("make(" + fields + ", " + words + ")", () -> own.make(fields, words), () -> model.make(fields, words));
    }

    private void set() {
        int a = someObject();
        int field = index(a, 1);
        int b = someObject();
        both("set(" + a + ", " + field + ", " + b + ")", () -> own.set(a, field, b), () -> model.set(a, field, b));
    }

    private void put() {
        int a = someObject();
        int k = index(a, 2);
        int v = draw(3) == 0 ? wild() : draw(9);
        both("put(" + a + ", " + k + ", " + v + ")", () -> own.put(a, k, v), () -> model.put(a, k, v));
    }

    private void root() {
        int root = rarely() ? wild() : draw(16);
        int a = someObject();
        both("root(" + root + ", " + a + ")", () -> own.root(root, a), () -> model.root(root, a));
    }

    private void ask(int which) {
        int a = someObject();
        int n = which < 2 ? index(a, which + 1) : which == 2 ? draw(17) : which == 3 ? draw(5) : draw(11);
        int i = rarely() ? wild() : n;
        switch (which) {
            case 0 -> both("get(" + a + ", " + i + ")", () -> own.get(a, i), () -> model.get(a, i));
            case 1 -> both("word(" + a + ", " + i + ")", () -> own.word(a, i), () -> model.word(a, i));
            case 2 -> both("rooted(" + i + ")", () -> own.rooted(i), () -> model.rooted(i));
            case 3 -> both("about(" + a + ", " + i + ")", () -> own.about(a, i), () -> model.about(a, i));
            case 4 -> both("count(" + i + ")", () -> own.count(i), () -> model.count(i));
            default -> both("next(" + a + ")", () -> own.next(a), () -> model.next(a));
        }
    }

    private void wholeState() {
        for (int i = 0; i < 16; i++) {
            int n = i;
            both("rooted(" + n + ")", () -> own.rooted(n), () -> model.rooted(n));
            both("count(" + n + ")", () -> own.count(n), () -> model.count(n));
        }
        int a = 0;
        do {
            int at = a;
            both("next(" + at + ")", () -> own.next(at), () -> model.next(at));
            a = model.next(at);
            wholeObject(a);
        } while (a != 0);
    }

    private void wholeObject(int a) {
        for (int i = 0; i < 4 && a != 0; i++) {
            int n = i;
            both("about(" + a + ", " + n + ")", () -> own.about(a, n), () -> model.about(a, n));
        }
        for (int i = 0; a != 0 && i < model.about(a, 1); i++) {
            int n = i;
            both("get(" + a + ", " + n + ")", () -> own.get(a, n), () -> model.get(a, n));
        }
        for (int i = 0; a != 0 && i < model.about(a, 2); i++) {
            int n = i;
            both("word(" + a + ", " + n + ")", () -> own.word(a, n), () -> model.word(a, n));
        }
    }
}
