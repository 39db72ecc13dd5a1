/** The examples of README.md answer what is written beside them. */
public final class ReadmeTest {
    private ReadmeTest() {
    }

    public static void main(String[] args) {
        firstExample();
        secondExample();
        thirdExample();
        Check.end();
    }

    private static void firstExample() {
        NurseryRow x = new NurseryRow();
        int a = x.make(1, 2);
        int b = x.make(0, 1);
        Check.due("README: a", 1, () -> a);
        Check.due("README: b", 7, () -> b);
        Check.due("README: set", 0, () -> x.set(a, 0, b));
        Check.due("README: put", 0, () -> x.put(b, 0, 42));
        Check.due("README: root", 0, () -> x.root(0, a));
        Check.due("README: collect", 2, () -> x.collect());
        Check.due("README: rooted", 321, () -> x.rooted(0));
        Check.due("README: get", 327, () -> x.get(321, 0));
        Check.due("README: word", 42, () -> x.word(327, 0));
        Check.due("README: age", 1, () -> x.about(321, 0));
        Check.due("README: where", 2, () -> x.about(321, 3));
    }

    private static void secondExample() {
        NurseryRow x = Sample.small();
        int seen = 0;
        for (int a = x.next(0); a != 0; a = x.next(a)) {
            seen++;
        }
        int all = seen;
        Check.due("README: goes over all objects", 4, () -> all);
    }

    private static void thirdExample() {
        NurseryRow x = new NurseryRow();
        Check.due("README: space", 2432, () -> x.space(16, 0, 64));
        Check.due("README: limit", 3, () -> x.limit(0));
        Check.due("README: no room", 0, () -> x.make(10, 10));
        Check.missing("README: no object", () -> x.get(1, 0));
        Check.refused("README: no such limit", () -> x.limit(16));
    }
}
