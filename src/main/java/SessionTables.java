/** A tree of files on a medium whose sectors can be written only once. */
public final class SessionTables {
    public static final int BAD = -1;
    public static final int TAKEN = -2;
    public static final int MANY = -3;
    public static final int FULL = -4;
    public static final int TORN = -5;
    public static final int BUSY = -6;
    public static final int LOOP = -7;
    public static final int SPOILED = -8;

    private static final int LEAST_SECTORS = 16;
    private static final int MOST_SECTORS = 128;
    private static final int WORDS = 16;
    private static final int NODES = 8;
    private static final int NAMES = 100;
    private static final int BLOCKS = 10;
    private static final int MOST_VALUE = 65535;
    private static final int MOST_STOP = 1000;

    private static final int DATA = 1;
    private static final int ENTRY = 2;
    private static final int TABLE = 3;

    private static final int ABSENT = 0;
    private static final int DIRECTORY = 1;
    private static final int FILE = 2;

    private static final int SORT_WORD = 0;
    private static final int CHECK_WORD = 1;
    private static final int PLACE_WORD = 2;
    private static final int NUMBER_WORD = 3;
    private static final int VALUE_WORD = 4;
    private static final int KIND_WORD = 4;
    private static final int COUNT_WORD = 5;
    private static final int FIRST_ITEM_WORD = 6;
    private static final int FIRST_NODE_WORD = 4;

    private static final int NONE = -1;

    private final Medium medium;
    private final Tree tree;
    /** Filled anew by each look at an earlier table, so that looking makes no objects. */
    private final Tree past;

    public SessionTables(int sectors) {
        medium = new Medium(Math.max(LEAST_SECTORS, Math.min(MOST_SECTORS, sectors)));
        tree = new Tree();
        past = new Tree();
        tree.becomeEmpty();
    }

    public int make(int dir, int name, boolean directory) {
        Node home = tree.directoryAt(dir);
        if (home == null || !isName(name)) {
            return BAD;
        }
        if (home.indexOfName(name) != NONE) {
            return TAKEN;
        }
        int number = tree.leastAbsent();
        if (number == NONE) {
            return MANY;
        }
        if (isTooFull(0, 1 + home.ifUnchanged())) {
            return FULL;
        }
        tree.nodes[number].becomeNew(directory ? DIRECTORY : FILE);
        home.addItem(name, number);
        return number;
    }

    public int write(int file, int k, int value) {
        Node target = tree.fileAt(file);
        if (target == null || value < 0 || value > MOST_VALUE) {
            return BAD;
        }
        if (k < 0 || k > target.count || k >= BLOCKS) {
            return BAD;
        }
        if (isTooFull(1, target.ifUnchanged())) {
            return FULL;
        }
        int place = medium.written;
        medium.begin(DATA, file);
        medium.put(VALUE_WORD, value);
        if (!medium.finish()) {
            readBack();
            return TORN;
        }
        target.setBlock(k, place);
        return place;
    }

    public int remove(int dir, int name) {
        Node home = tree.directoryAt(dir);
        if (home == null) {
            return BAD;
        }
        int index = home.indexOfName(name);
        Node gone = tree.nodeAt(home.nodeOfItem(index));
        if (gone == null) {
            return BAD;
        }
        if (gone.type == DIRECTORY && gone.count > 0) {
            return BUSY;
        }
        int goneChanged = gone.isChanged ? 1 : 0;
        if (isTooFull(0, home.ifUnchanged() - goneChanged)) {
            return FULL;
        }
        int number = home.nodeOfItem(index);
        home.dropItem(index);
        gone.becomeAbsent();
        return number;
    }

    public int move(int dir, int name, int to, int as) {
        Node from = tree.directoryAt(dir);
        Node target = tree.directoryAt(to);
        if (from == null || target == null || !isName(as)) {
            return BAD;
        }
        int index = from.indexOfName(name);
        if (index == NONE) {
            return BAD;
        }
        if (target.indexOfName(as) != NONE) {
            return TAKEN;
        }
        int number = from.nodeOfItem(index);
        if (tree.isAtOrBelow(to, number)) {
            return LOOP;
        }
        int targetNew = to == dir ? 0 : target.ifUnchanged();
        if (isTooFull(0, from.ifUnchanged() + targetNew)) {
            return FULL;
        }
        from.dropItem(index);
        target.addItem(as, number);
        return number;
    }

    public int close() {
        int count = tree.countChanged();
        if (count == 0) {
            return 0;
        }
        if (isTooFull(0, 0)) {
            return FULL;
        }
        if (!writeEntries() || !writeTable(newestNumber() + 1)) {
            readBack();
            return TORN;
        }
        return count + 1;
    }

    public boolean arm(int k) {
        if (k < 0 || k > MOST_STOP) {
            return false;
        }
        medium.stop = k;
        return true;
    }

    public int crash() {
        readBack();
        medium.stop = NONE;
        return newestNumber();
    }

    public boolean spoil(int place) {
        if (!medium.isWritten(place)) {
            return false;
        }
        medium.flipCheck(place);
        return true;
    }

    public int left() {
        return medium.unwritten();
    }

    public int changed() {
        return tree.countChanged();
    }

    public int tables() {
        int count = 0;
        for (int place = 0; place < medium.written; place++) {
            if (isValidTable(place)) {
                count++;
            }
        }
        return count;
    }

    public int kind(int at, int node) {
        Node seen = treeAt(at).nodeAt(node);
        return seen == null ? BAD : seen.type;
    }

    public int items(int at, int node) {
        Node seen = treeAt(at).nodeAt(node);
        return seen == null ? BAD : seen.count;
    }

    public int find(int at, int dir, int name) {
        Node seen = treeAt(at).directoryAt(dir);
        if (seen == null) {
            return BAD;
        }
        int index = seen.indexOfName(name);
        return index == NONE ? BAD : seen.nodeOfItem(index);
    }

    public int item(int at, int dir, int i) {
        Node seen = treeAt(at).directoryAt(dir);
        return seen == null || !seen.has(i) ? BAD : seen.list[i];
    }

    public int block(int at, int file, int k) {
        Node seen = treeAt(at).fileAt(file);
        if (seen == null || !seen.has(k)) {
            return BAD;
        }
        int place = seen.list[k];
        return medium.isGood(place) ? medium.wordAt(place, VALUE_WORD) : SPOILED;
    }

    public int word(int place, int i) {
        return medium.hasWord(place, i) ? medium.wordAt(place, i) : BAD;
    }

    private static boolean isName(int name) {
        return name >= 0 && name < NAMES;
    }

    /** Whether a close could no longer follow a call that writes and changes so much. */
    private boolean isTooFull(int newSectors, int newChanged) {
        return medium.unwritten() - newSectors < tree.countChanged() + newChanged + 1;
    }

    /** A torn sector ends it; the marks taken off until then do no harm, as reading back follows. */
    private boolean writeEntries() {
        for (int number = 0; number < NODES; number++) {
            Node node = tree.nodes[number];
            if (node.isChanged && !writeEntry(number, node)) {
                return false;
            }
        }
        return true;
    }

    private boolean writeEntry(int number, Node node) {
        node.entry = medium.written;
        node.isChanged = false;
        medium.begin(ENTRY, number);
        medium.put(KIND_WORD, node.type);
        medium.put(COUNT_WORD, node.count);
        for (int i = 0; i < node.count; i++) {
            medium.put(FIRST_ITEM_WORD + i, node.list[i]);
        }
        return medium.finish();
    }

    private boolean writeTable(int tableNumber) {
        medium.begin(TABLE, tableNumber);
        for (int number = 0; number < NODES; number++) {
            medium.put(FIRST_NODE_WORD + number, tree.nodes[number].entry + 1);
        }
        return medium.finish();
    }

    private void readBack() {
        int place = newestTable();
        if (place == NONE) {
            tree.becomeEmpty();
        } else {
            tree.become(medium, place);
        }
    }

    private Tree treeAt(int at) {
        if (at == 0) {
            return tree;
        }
        int place = tablePlace(at);
        if (place == NONE) {
            past.becomeNothing();
        } else {
            past.become(medium, place);
        }
        return past;
    }

    private int tablePlace(int at) {
        int count = 0;
        for (int place = 0; place < medium.written; place++) {
            if (isValidTable(place)) {
                count++;
                if (count == at) {
                    return place;
                }
            }
        }
        return NONE;
    }

    private int newestTable() {
        for (int place = medium.written - 1; place >= 0; place--) {
            if (isValidTable(place)) {
                return place;
            }
        }
        return NONE;
    }

    private int newestNumber() {
        int place = newestTable();
        return place == NONE ? 0 : medium.wordAt(place, NUMBER_WORD);
    }

    private boolean isValidTable(int place) {
        if (medium.wordAt(place, SORT_WORD) != TABLE || !medium.isGood(place)) {
            return false;
        }
        for (int number = 0; number < NODES; number++) {
            int named = medium.wordAt(place, FIRST_NODE_WORD + number);
            if (named != 0 && !medium.isGood(named - 1)) {
                return false;
            }
        }
        return true;
    }

    /** The sectors, written one behind the other, and the stop that may be armed. */
    private static final class Medium {
        final int sectors;
        final int[] words;
        /** What word 1 of each written sector ought to be: only word 1 can change later. */
        final int[] checks;
        int written;
        /** How many sectors are still written whole before the torn one; NONE if nothing is armed. */
        int stop;

        Medium(int sectors) {
            this.sectors = sectors;
            words = new int[sectors * WORDS];
            checks = new int[sectors];
            written = 0;
            stop = NONE;
        }

        int unwritten() {
            return sectors - written;
        }

        boolean isWritten(int place) {
            return place >= 0 && place < written;
        }

        boolean hasWord(int place, int i) {
            return place >= 0 && place < sectors && i >= 0 && i < WORDS;
        }

        int wordAt(int place, int i) {
            return hasWord(place, i) ? words[place * WORDS + i] : 0;
        }

        boolean isGood(int place) {
            return isWritten(place) && wordAt(place, CHECK_WORD) == checks[place];
        }

        void flipCheck(int place) {
            if (isWritten(place)) {
                words[place * WORDS + CHECK_WORD] ^= 1;
            }
        }

        /** The words are set in the next sector itself, where all are still 0. */
        void begin(int sort, int number) {
            put(SORT_WORD, sort);
            put(PLACE_WORD, written);
            put(NUMBER_WORD, number);
        }

        void put(int i, int value) {
            if (hasWord(written, i)) {
                words[written * WORDS + i] = value;
            }
        }

        /** Answers whether the sector was written whole; false if it is torn. */
        boolean finish() {
            if (written >= sectors) {
                return false;
            }
            boolean isTorn = stop == 0;
            int check = checkOf(written);
            checks[written] = check;
            put(CHECK_WORD, isTorn ? check ^ 1 : check);
            written++;
            if (stop != NONE) {
                // From 0 this steps to NONE: a stop that has torn a sector is armed no more.
                stop--;
            }
            return !isTorn;
        }

        private int checkOf(int place) {
            int c = 65535;
            for (int i = 0; i < WORDS; i++) {
                if (i != CHECK_WORD) {
                    c = checkWithWord(c, wordAt(place, i));
                }
            }
            return c;
        }

        private static int checkWithWord(int before, int word) {
            int c = before;
            for (int shift = 24; shift >= 0; shift -= 8) {
                c = checkWithByte(c, (word >>> shift) & 255);
            }
            return c;
        }

        private static int checkWithByte(int before, int octet) {
            int c = before ^ (256 * octet);
            for (int bit = 0; bit < 8; bit++) {
                c = c < 32768 ? 2 * c : (2 * c - 65536) ^ 4129;
            }
            return c;
        }
    }

    /** A directory with its items, a file with the places of its blocks, or a number that is free. */
    private static final class Node {
        final int[] list;
        int type;
        int count;
        /** The place of the newest entry; NONE as long as there is none. */
        int entry;
        boolean isChanged;

        Node() {
            list = new int[BLOCKS];
            type = ABSENT;
            count = 0;
            entry = NONE;
            isChanged = false;
        }

        void becomeAbsent() {
            type = ABSENT;
            count = 0;
            entry = NONE;
            isChanged = false;
        }

        void becomeNew(int newType) {
            type = newType;
            count = 0;
            entry = NONE;
            isChanged = true;
        }

        void become(Medium medium, int place) {
            type = medium.wordAt(place, KIND_WORD);
            count = Math.max(0, Math.min(BLOCKS, medium.wordAt(place, COUNT_WORD)));
            for (int i = 0; i < count; i++) {
                list[i] = medium.wordAt(place, FIRST_ITEM_WORD + i);
            }
            entry = place;
            isChanged = false;
        }

        int ifUnchanged() {
            return isChanged ? 0 : 1;
        }

        boolean has(int i) {
            return i >= 0 && i < count;
        }

        int indexOfName(int name) {
            for (int i = 0; i < count; i++) {
                if (list[i] >> 4 == name) {
                    return i;
                }
            }
            return NONE;
        }

        int nodeOfItem(int i) {
            return has(i) ? list[i] & 15 : NONE;
        }

        boolean holds(int number) {
            for (int i = 0; i < count; i++) {
                if ((list[i] & 15) == number) {
                    return true;
                }
            }
            return false;
        }

        void addItem(int name, int number) {
            if (count < BLOCKS) {
                list[count] = name * 16 + number;
                count++;
            }
            isChanged = true;
        }

        void dropItem(int index) {
            if (has(index)) {
                count--;
                for (int i = index; i < count; i++) {
                    list[i] = list[i + 1];
                }
            }
            isChanged = true;
        }

        void setBlock(int k, int place) {
            if (k >= 0 && k < BLOCKS) {
                list[k] = place;
                count = Math.max(count, k + 1);
            }
            isChanged = true;
        }
    }

    private static final class Tree {
        final Node[] nodes;

        Tree() {
            nodes = new Node[NODES];
            for (int number = 0; number < NODES; number++) {
                nodes[number] = new Node();
            }
        }

        void becomeNothing() {
            for (int number = 0; number < NODES; number++) {
                nodes[number].becomeAbsent();
            }
        }

        void becomeEmpty() {
            becomeNothing();
            nodes[0].becomeNew(DIRECTORY);
        }

        void become(Medium medium, int tablePlace) {
            for (int number = 0; number < NODES; number++) {
                int named = medium.wordAt(tablePlace, FIRST_NODE_WORD + number);
                if (named == 0) {
                    nodes[number].becomeAbsent();
                } else {
                    nodes[number].become(medium, named - 1);
                }
            }
        }

        Node nodeAt(int number) {
            if (number < 0 || number >= NODES || nodes[number].type == ABSENT) {
                return null;
            }
            return nodes[number];
        }

        Node directoryAt(int number) {
            Node node = nodeAt(number);
            return node != null && node.type == DIRECTORY ? node : null;
        }

        Node fileAt(int number) {
            Node node = nodeAt(number);
            return node != null && node.type == FILE ? node : null;
        }

        int leastAbsent() {
            for (int number = 0; number < NODES; number++) {
                if (nodes[number].type == ABSENT) {
                    return number;
                }
            }
            return NONE;
        }

        int countChanged() {
            int count = 0;
            for (int number = 0; number < NODES; number++) {
                if (nodes[number].isChanged) {
                    count++;
                }
            }
            return count;
        }

        boolean isAtOrBelow(int low, int high) {
            int number = low;
            for (int depth = 0; depth < NODES && number != NONE; depth++) {
                if (number == high) {
                    return true;
                }
                number = parentOf(number);
            }
            return false;
        }

        private int parentOf(int child) {
            for (int number = 0; number < NODES; number++) {
                if (nodes[number].type == DIRECTORY && nodes[number].holds(child)) {
                    return number;
                }
            }
            return NONE;
        }
    }
}
