import java.util.ArrayList;
import java.util.List;
import java.util.NoSuchElementException;

/** The document told a second time, with Java objects that move instead of cells that are copied. */
final class Model {
    private static final class Thing {
        int address;
        int age;
        Thing[] fields;
        int[] words;

        int size() {
            return 3 + fields.length + words.length;
        }
    }

    private static final class Place {
        final int first;
        final int cells;
        final List<Thing> things = new ArrayList<>();

        Place(int first, int cells) {
            this.first = first;
            this.cells = cells;
        }

        int used() {
            int sum = 0;
            for (Thing thing : things) {
                sum += thing.size();
            }
            return sum;
        }

        boolean fits(Thing thing) {
            return thing.size() <= cells - used();
        }

        void add(Thing thing) {
            thing.address = first + used();
            things.add(thing);
        }
    }

    private Place[] places;
    private Thing[] roots;
    private int[] counts;
    private int limit = 3;

    Model() {
        lay(256, 64, 2048);
    }

    private void lay(int eden, int row, int old) {
        places = new Place[] {
            new Place(1, eden), new Place(1 + eden, row),
            new Place(1 + eden + row, row), new Place(1 + eden + 2 * row, old)};
        roots = new Thing[16];
        counts = new int[10];
    }

    private Place inUse() {
        return places[1 + counts[9]];
    }

    private Thing at(int a) {
        for (Place place : places) {
            for (Thing thing : place.things) {
                if (thing.address == a) {
                    return thing;
                }
            }
        }
        throw new NoSuchElementException();
    }

    private Thing atOrNothing(int a) {
        return a == 0 ? null : at(a);
    }

    private static int told(Thing thing) {
        return thing == null ? 0 : thing.address;
    }

    private static void has(int index, int length) {
        if (index < 0 || index >= length) {
            throw new NoSuchElementException();
        }
    }

    private static void between(int n, int least, int most) {
        if (n < least || n > most) {
            throw new IllegalArgumentException();
        }
    }

    int space(int eden, int row, int old) {
        between(eden, 16, 1024);
        between(row, 0, 512);
        between(old, 64, 8192);
        int all = places[0].cells + 2 * places[1].cells + places[3].cells;
        lay(eden, row, old);
        return all;
    }

    int limit(int n) {
        between(n, 0, 15);
        int was = limit;
        limit = n;
        return was;
    }

    int make(int fields, int words) {
        between(fields, 0, 200);
        between(words, 0, 200);
        Thing thing = new Thing();
        thing.fields = new Thing[fields];
        thing.words = new int[words];
        if (!places[0].fits(thing)) {
            return 0;
        }
        places[0].add(thing);
        return thing.address;
    }

    int set(int a, int field, int b) {
        Thing thing = at(a);
        has(field, thing.fields.length);
        Thing other = atOrNothing(b);
        int was = told(thing.fields[field]);
        thing.fields[field] = other;
        return was;
    }

    int get(int a, int field) {
        Thing thing = at(a);
        has(field, thing.fields.length);
        return told(thing.fields[field]);
    }

    int put(int a, int k, int v) {
        Thing thing = at(a);
        has(k, thing.words.length);
        int was = thing.words[k];
        thing.words[k] = v;
        return was;
    }

    int word(int a, int k) {
        Thing thing = at(a);
        has(k, thing.words.length);
        return thing.words[k];
    }

    int root(int root, int a) {
        has(root, 16);
        Thing thing = atOrNothing(a);
        int was = told(roots[root]);
        roots[root] = thing;
        return was;
    }

    int rooted(int root) {
        has(root, 16);
        return told(roots[root]);
    }

    int collect() {
        Place old = places[3];
        if (old.cells - old.used() < places[0].used() + inUse().used()) {
            throw new IllegalStateException();
        }
        List<Thing> young = new ArrayList<>(places[0].things);
        young.addAll(inUse().things);
        places[0].things.clear();
        inUse().things.clear();
        counts[9] = 1 - counts[9];
        List<Thing> wasOld = new ArrayList<>(old.things);
        List<Thing> moved = new ArrayList<>();
        for (Thing thing : roots) {
            find(thing, young, moved);
        }
        for (Thing thing : wasOld) {
            findAll(thing, young, moved);
        }
        for (int i = 0; i < moved.size(); i++) {
            findAll(moved.get(i), young, moved);
        }
        counts[6]++;
        return moved.size();
    }

    private void findAll(Thing thing, List<Thing> young, List<Thing> moved) {
        for (Thing other : thing.fields) {
            find(other, young, moved);
        }
    }

    private void find(Thing thing, List<Thing> young, List<Thing> moved) {
        if (thing == null || !young.remove(thing)) {
            return;
        }
        moved.add(thing);
        if (thing.age < limit && inUse().fits(thing)) {
            thing.age++;
            inUse().add(thing);
            counts[7]++;
        } else {
            places[3].add(thing);
            counts[8]++;
        }
    }

    int about(int a, int what) {
        Thing thing = at(a);
        between(what, 0, 3);
        int where = 0;
        while (!places[where].things.contains(thing)) {
            where++;
        }
        return new int[] {thing.age, thing.fields.length, thing.words.length, where}[what];
    }

    int next(int a) {
        atOrNothing(a);
        int best = 0;
        for (Place place : places) {
            for (Thing thing : place.things) {
                if (thing.address > a && (best == 0 || thing.address < best)) {
                    best = thing.address;
                }
            }
        }
        return best;
    }

    int count(int what) {
        between(what, 0, 9);
        Place[] told = {places[0], inUse(), places[3]};
        if (what < 3) {
            return told[what].things.size();
        }
        return what < 6 ? told[what - 3].used() : counts[what];
    }
}
