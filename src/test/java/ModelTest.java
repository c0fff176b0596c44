import java.util.ArrayList;
import java.util.LinkedHashMap;
import java.util.List;
import java.util.Map;
import java.util.Random;
import java.util.TreeMap;
import java.util.TreeSet;

/** Long runs of mixed calls on SessionTables and on a slow second form of the document. */
public final class ModelTest {
    private static final int CALLS = 512;
    private static final int[] SIZES = {-3, 16, 16, 17, 20, 24, 32, 48, 64, 100, 127, 128, 500};
    private static final String[] MUST_COME = {
        "make -1", "make -2", "make -3", "make -4", "write -1", "write -4", "write -5",
        "remove -1", "remove -4", "remove -6", "move -1", "move -2", "move -4", "move -7",
        "close 0", "close -4", "close -5", "arm 0", "spoil 0", "crash 0", "block -1", "block -8",
        "kind -1", "items -1", "find -1", "item -1", "word -1"};

    private static final TreeSet<String> came = new TreeSet<>();

    public static void main(String[] args) {
        int runs = args.length > 0 ? Integer.parseInt(args[0]) : 400;
        int wrong = 0;
        for (int seed = 0; seed < runs && wrong < 5; seed++) {
            wrong += oneRun(seed) ? 0 : 1;
        }
        for (String answer : MUST_COME) {
            if (wrong == 0 && !came.contains(answer)) {
                wrong++;
                System.out.println("no run had the answer " + answer);
            }
        }
        System.out.println(wrong == 0 ? runs + " runs agree with the model" : "the model does not agree");
        if (wrong != 0) {
            System.exit(1);
        }
    }

    private static boolean oneRun(int seed) {
        Random random = new Random(seed);
        int sectors = SIZES[random.nextInt(SIZES.length)];
        SessionTables real = new SessionTables(sectors);
        Model model = new Model(sectors);
        // Runs that close and stop seldom fill the tree, others fill the medium.
        int style = random.nextInt(4);
        List<String> told = new ArrayList<>();
        for (int call = 0; call < CALLS; call++) {
            int[] a = nextCall(random, style, model);
            int got = onReal(real, a);
            int want = model.answer(a);
            told.add(text(a) + " -> " + got);
            came.add(NAMES[a[0]] + " " + got);
            if (got != want) {
                System.out.println("seed " + seed + ", new SessionTables(" + sectors + ")");
                for (String line : told) {
                    System.out.println("  " + line);
                }
                System.out.println("  due is " + want);
                return false;
            }
        }
        return true;
    }

    private static final String[] NAMES = {"make", "write", "remove", "move", "close", "arm", "crash", "spoil",
        "left", "changed", "tables", "kind", "items", "find", "item", "block", "word"};
    private static final int[][] WEIGHTS = {
        {10, 14, 6, 8, 4, 2, 1, 3, 2, 3, 3, 3, 4, 4, 4, 8, 5},
        {14, 4, 5, 16, 1, 0, 0, 1, 2, 3, 2, 3, 4, 5, 5, 3, 2},
        {8, 10, 5, 6, 6, 6, 3, 12, 2, 3, 8, 3, 4, 4, 4, 10, 8},
        {5, 8, 4, 5, 2, 1, 1, 1, 3, 4, 4, 6, 8, 8, 10, 14, 14}};

    private static int[] nextCall(Random r, int style, Model model) {
        int total = 0;
        for (int weight : WEIGHTS[style]) {
            total += weight;
        }
        int pick = r.nextInt(total);
        int which = 0;
        while (pick >= WEIGHTS[style][which]) {
            pick -= WEIGHTS[style][which];
            which++;
        }
        int written = model.medium.size();
        int at = r.nextInt(3) == 0 ? 0 : r.nextInt(5) - (r.nextInt(20) == 0 ? 3 : 0);
        switch (which) {
            case 0: return new int[] {0, node(r), name(r), r.nextInt(2)};
            case 1: return new int[] {1, node(r), blockNumber(r), r.nextInt(12) == 0 ? edge(r, 65535) : r.nextInt(65536)};
            case 2: return new int[] {2, node(r), name(r)};
            case 3: return new int[] {3, node(r), name(r), node(r), name(r)};
            case 5: return new int[] {5, r.nextInt(8) == 0 ? edge(r, 1000) : r.nextInt(12)};
            case 7: return new int[] {7, r.nextInt(8) == 0 ? edge(r, written) : nearEnd(r, written)};
            case 11: case 12: return new int[] {which, at, node(r)};
            case 13: return new int[] {13, at, node(r), name(r)};
            case 14: return new int[] {14, at, node(r), blockNumber(r) / 2};
            case 15: return new int[] {15, at, node(r), blockNumber(r) / 2};
            case 16: return new int[] {16, r.nextInt(8) == 0 ? edge(r, model.sectors) : nearEnd(r, written),
                r.nextInt(12) == 0 ? edge(r, 15) : r.nextInt(16)};
            default: return new int[] {which};
        }
    }

    private static int node(Random r) {
        return r.nextInt(20) == 0 ? edge(r, 7) : r.nextInt(3) == 0 ? r.nextInt(2) : r.nextInt(8);
    }

    private static int name(Random r) {
        return r.nextInt(15) == 0 ? edge(r, 99) : r.nextInt(7);
    }

    private static int blockNumber(Random r) {
        return r.nextInt(15) == 0 ? edge(r, 9) : Math.min(r.nextInt(11), r.nextInt(11));
    }

    private static int nearEnd(Random r, int written) {
        return r.nextInt(2) == 0 ? Math.max(0, written - 1 - r.nextInt(8)) : r.nextInt(written + 2);
    }

    private static int edge(Random r, int most) {
        int[] edges = {Integer.MIN_VALUE, -1, 0, most - 1, most, most + 1, Integer.MAX_VALUE};
        return edges[r.nextInt(edges.length)];
    }

    private static String text(int[] a) {
        StringBuilder s = new StringBuilder(NAMES[a[0]]).append('(');
        for (int i = 1; i < a.length; i++) {
            s.append(i > 1 ? ", " : "").append(a[i]);
        }
        return s.append(')').toString();
    }

    private static int onReal(SessionTables x, int[] a) {
        switch (a[0]) {
            case 0: return x.make(a[1], a[2], a[3] == 1);
            case 1: return x.write(a[1], a[2], a[3]);
            case 2: return x.remove(a[1], a[2]);
            case 3: return x.move(a[1], a[2], a[3], a[4]);
            case 4: return x.close();
            case 5: return x.arm(a[1]) ? 1 : 0;
            case 6: return x.crash();
            case 7: return x.spoil(a[1]) ? 1 : 0;
            case 8: return x.left();
            case 9: return x.changed();
            case 10: return x.tables();
            case 11: return x.kind(a[1], a[2]);
            case 12: return x.items(a[1], a[2]);
            case 13: return x.find(a[1], a[2], a[3]);
            case 14: return x.item(a[1], a[2], a[3]);
            case 15: return x.block(a[1], a[2], a[3]);
            default: return x.word(a[1], a[2]);
        }
    }

    /** A node; the children of a directory by name, in the order in which they came. */
    private static final class Thing {
        final boolean directory;
        final Map<Integer, Integer> children = new LinkedHashMap<>();
        final List<Integer> places = new ArrayList<>();

        Thing(boolean directory) {
            this.directory = directory;
        }

        int size() {
            return directory ? children.size() : places.size();
        }

        Thing copy() {
            Thing other = new Thing(directory);
            other.children.putAll(children);
            other.places.addAll(places);
            return other;
        }
    }

    private static final class State {
        final TreeMap<Integer, Thing> things = new TreeMap<>();
        final TreeSet<Integer> changed = new TreeSet<>();
        final Map<Integer, Integer> entries = new TreeMap<>();

        static State empty() {
            State state = new State();
            state.things.put(0, new Thing(true));
            state.changed.add(0);
            return state;
        }

        State copy() {
            State other = new State();
            for (Map.Entry<Integer, Thing> e : things.entrySet()) {
                other.things.put(e.getKey(), e.getValue().copy());
            }
            other.changed.addAll(changed);
            other.entries.putAll(entries);
            return other;
        }

        Thing directory(int node) {
            Thing thing = things.get(node);
            return thing != null && thing.directory ? thing : null;
        }

        Thing file(int node) {
            Thing thing = things.get(node);
            return thing != null && !thing.directory ? thing : null;
        }

        boolean reaches(int from, int node) {
            if (from == node) {
                return true;
            }
            for (int child : things.get(from).children.values()) {
                if (reaches(child, node)) {
                    return true;
                }
            }
            return false;
        }
    }

    private static final class Model {
        final int sectors;
        final List<int[]> medium = new ArrayList<>();
        State state = State.empty();
        int armed = -1;
        int since;

        Model(int asked) {
            sectors = asked < 16 ? 16 : asked > 128 ? 128 : asked;
        }

        int answer(int[] a) {
            switch (a[0]) {
                case 0: return make(a[1], a[2], a[3] == 1);
                case 1: return write(a[1], a[2], a[3]);
                case 2: return remove(a[1], a[2]);
                case 3: return move(a[1], a[2], a[3], a[4]);
                case 4: return close();
                case 5: return arm(a[1]);
                case 6: return crash();
                case 7: return spoil(a[1]);
                case 8: return sectors - medium.size();
                case 9: return state.changed.size();
                case 10: return validTables().size();
                case 16: return word(a[1], a[2]);
                default: return look(a);
            }
        }

        /** Takes the state that a call would make, unless a close could not follow it. */
        boolean accept(State then, int newSectors) {
            if (sectors - medium.size() - newSectors < then.changed.size() + 1) {
                return false;
            }
            state = then;
            return true;
        }

        int make(int dir, int name, boolean directory) {
            Thing home = state.directory(dir);
            if (home == null || name < 0 || name > 99) {
                return -1;
            }
            if (home.children.containsKey(name)) {
                return -2;
            }
            if (state.things.size() == 8) {
                return -3;
            }
            int node = 0;
            while (state.things.containsKey(node)) {
                node++;
            }
            State then = state.copy();
            then.things.put(node, new Thing(directory));
            then.directory(dir).children.put(name, node);
            then.changed.add(node);
            then.changed.add(dir);
            return accept(then, 0) ? node : -4;
        }

        int write(int file, int k, int value) {
            Thing thing = state.file(file);
            if (thing == null || value < 0 || value > 65535 || k < 0 || k > thing.places.size() || k > 9) {
                return -1;
            }
            State then = state.copy();
            List<Integer> places = then.file(file).places;
            int place = medium.size();
            if (k == places.size()) {
                places.add(place);
            } else {
                places.set(k, place);
            }
            then.changed.add(file);
            if (!accept(then, 1)) {
                return -4;
            }
            return sector(1, file, new int[] {value}) ? place : -5;
        }

        int remove(int dir, int name) {
            Thing home = state.directory(dir);
            if (home == null || !home.children.containsKey(name)) {
                return -1;
            }
            int node = home.children.get(name);
            if (!state.things.get(node).children.isEmpty()) {
                return -6;
            }
            State then = state.copy();
            then.directory(dir).children.remove(name);
            then.things.remove(node);
            then.entries.remove(node);
            then.changed.remove(node);
            then.changed.add(dir);
            return accept(then, 0) ? node : -4;
        }

        int move(int dir, int name, int to, int as) {
            Thing from = state.directory(dir);
            Thing target = state.directory(to);
            if (from == null || target == null || !from.children.containsKey(name) || as < 0 || as > 99) {
                return -1;
            }
            if (target.children.containsKey(as)) {
                return -2;
            }
            int node = from.children.get(name);
            if (state.reaches(node, to)) {
                return -7;
            }
            State then = state.copy();
            then.directory(dir).children.remove(name);
            then.directory(to).children.put(as, node);
            then.changed.add(dir);
            then.changed.add(to);
            return accept(then, 0) ? node : -4;
        }

        int close() {
            int count = state.changed.size();
            if (count == 0) {
                return 0;
            }
            if (sectors - medium.size() < count + 1) {
                return -4;
            }
            List<Integer> valid = validTables();
            int number = valid.isEmpty() ? 1 : medium.get(valid.get(valid.size() - 1))[3] + 1;
            for (int node : new ArrayList<>(state.changed)) {
                state.entries.put(node, medium.size());
                if (!sector(2, node, entryWords(state.things.get(node)))) {
                    return -5;
                }
            }
            int[] named = new int[8];
            for (int node : state.things.keySet()) {
                named[node] = state.entries.get(node) + 1;
            }
            if (!sector(3, number, named)) {
                return -5;
            }
            state.changed.clear();
            return count + 1;
        }

        static int[] entryWords(Thing thing) {
            int[] words = new int[2 + thing.size()];
            words[0] = thing.directory ? 1 : 2;
            words[1] = thing.size();
            int i = 2;
            for (Map.Entry<Integer, Integer> e : thing.children.entrySet()) {
                words[i++] = e.getKey() * 16 + e.getValue();
            }
            for (int place : thing.places) {
                words[i++] = place;
            }
            return words;
        }

        boolean sector(int sort, int number, int[] rest) {
            int[] words = new int[16];
            words[0] = sort;
            words[2] = medium.size();
            words[3] = number;
            System.arraycopy(rest, 0, words, 4, rest.length);
            words[1] = check(words);
            medium.add(words);
            if (armed >= 0 && since == armed) {
                words[1] ^= 1;
                armed = -1;
                readBack();
                return false;
            }
            since++;
            return true;
        }

        int arm(int k) {
            if (k < 0 || k > 1000) {
                return 0;
            }
            armed = k;
            since = 0;
            return 1;
        }

        int crash() {
            readBack();
            armed = -1;
            List<Integer> valid = validTables();
            return valid.isEmpty() ? 0 : medium.get(valid.get(valid.size() - 1))[3];
        }

        int spoil(int place) {
            if (place < 0 || place >= medium.size()) {
                return 0;
            }
            medium.get(place)[1] ^= 1;
            return 1;
        }

        int word(int place, int i) {
            if (place < 0 || place >= sectors || i < 0 || i > 15) {
                return -1;
            }
            return place < medium.size() ? medium.get(place)[i] : 0;
        }

        int look(int[] a) {
            List<Integer> valid = validTables();
            if (a[1] < 0 || a[1] > valid.size()) {
                return -1;
            }
            State seen = a[1] == 0 ? state : read(valid.get(a[1] - 1));
            Thing thing = seen.things.get(a[2]);
            if (thing == null) {
                return -1;
            }
            if (a[0] == 11) {
                return thing.directory ? 1 : 2;
            }
            if (a[0] == 12) {
                return thing.size();
            }
            if (thing.directory != (a[0] != 15)) {
                return -1;
            }
            if (a[0] == 13) {
                return thing.children.getOrDefault(a[3], -1);
            }
            if (a[3] < 0 || a[3] >= thing.size()) {
                return -1;
            }
            if (a[0] == 14) {
                return entryWords(thing)[2 + a[3]];
            }
            int[] data = medium.get(thing.places.get(a[3]));
            return good(data) ? data[4] : -8;
        }

        void readBack() {
            List<Integer> valid = validTables();
            state = valid.isEmpty() ? State.empty() : read(valid.get(valid.size() - 1));
        }

        State read(int table) {
            State made = new State();
            for (int node = 0; node < 8; node++) {
                int named = medium.get(table)[4 + node];
                if (named != 0) {
                    int[] words = medium.get(named - 1);
                    Thing thing = new Thing(words[4] == 1);
                    for (int i = 6; i < 6 + words[5]; i++) {
                        if (thing.directory) {
                            thing.children.put(words[i] / 16, words[i] % 16);
                        } else {
                            thing.places.add(words[i]);
                        }
                    }
                    made.things.put(node, thing);
                    made.entries.put(node, named - 1);
                }
            }
            return made;
        }

        List<Integer> validTables() {
            List<Integer> valid = new ArrayList<>();
            for (int place = 0; place < medium.size(); place++) {
                if (medium.get(place)[0] == 3 && isValid(medium.get(place))) {
                    valid.add(place);
                }
            }
            return valid;
        }

        boolean isValid(int[] table) {
            boolean all = good(table);
            for (int i = 4; i < 12; i++) {
                all = all && (table[i] == 0 || good(medium.get(table[i] - 1)));
            }
            return all;
        }

        static boolean good(int[] words) {
            return words[1] == check(words);
        }

        /** By a table of the 256 bytes, so not in the way in which the class works it out. */
        static int check(int[] words) {
            int c = 0xFFFF;
            for (int i = 0; i < 16; i++) {
                for (int shift = 24; shift >= 0 && i != 1; shift -= 8) {
                    int octet = (words[i] >>> shift) & 0xFF;
                    c = ((c << 8) & 0xFFFF) ^ BYTES[(c >>> 8) ^ octet];
                }
            }
            return c;
        }

        static final int[] BYTES = bytes();

        static int[] bytes() {
            int[] made = new int[256];
            for (int octet = 0; octet < 256; octet++) {
                int c = octet << 8;
                for (int bit = 0; bit < 8; bit++) {
                    c = (c & 0x8000) != 0 ? ((c << 1) ^ 0x1021) & 0xFFFF : c << 1;
                }
                made[octet] = c;
            }
            return made;
        }
    }
}
