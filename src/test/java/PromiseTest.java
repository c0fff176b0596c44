/** For each promise of the document: ordinary inputs, the edges that it names, and wrong inputs. */
public final class PromiseTest {
    private static final int BAD = SessionTables.BAD;
    private static final int TAKEN = SessionTables.TAKEN;
    private static final int MANY = SessionTables.MANY;
    private static final int FULL = SessionTables.FULL;
    private static final int TORN = SessionTables.TORN;
    private static final int BUSY = SessionTables.BUSY;
    private static final int LOOP = SessionTables.LOOP;
    private static final int SPOILED = SessionTables.SPOILED;
    private static final int[] FAR = {Integer.MIN_VALUE, -1, Integer.MAX_VALUE};

    private static int wrong = 0;

    public static void main(String[] args) {
        newObject();
        make();
        makeFull();
        write();
        writeFull();
        remove();
        removeFull();
        move();
        moveFull();
        close();
        closeNumbers();
        closeOverSpoiledEntry();
        closeFull();
        arm();
        tornClose();
        crash();
        spoil();
        spoilMendsTorn();
        leftAndChanged();
        tables();
        looksBack();
        looksWrong();
        block();
        word();
        checks();
        System.out.println(wrong == 0 ? "all promises hold" : wrong + " answers are not as due");
        if (wrong != 0) {
            System.exit(1);
        }
    }

    private static void due(int promise, String what, int got, int want) {
        if (got != want) {
            wrong++;
            System.out.println("promise " + promise + ": " + what + " answered " + got + ", due is " + want);
        }
    }

    private static void due(int promise, String what, boolean got, boolean want) {
        due(promise, what, got ? 1 : 0, want ? 1 : 0);
    }

    private static void dueSector(int promise, SessionTables x, int place, int... words) {
        for (int i = 0; i < 16; i++) {
            if (i != 1) {
                int want = i < words.length ? words[i] : 0;
                due(promise, "word(" + place + ", " + i + ")", x.word(place, i), want);
            }
        }
        due(promise, "check of " + place, x.word(place, 1), Due.check(x, place));
    }

    private static SessionTables withFile(int sectors) {
        SessionTables x = new SessionTables(sectors);
        due(2, "make of the file", x.make(0, 1, false), 1);
        return x;
    }

    /** A medium of 16 sectors with one closed file (node 1, name 1), so many sectors still unwritten. */
    private static SessionTables closedWithLeft(int left) {
        SessionTables x = withFile(16);
        for (int i = 0; i < 16 && x.left() > left + 3; i++) {
            x.write(1, Math.min(i, 9), i);
        }
        due(6, "close of the filled one", x.close(), 3);
        due(10, "left of the filled one", x.left(), left);
        due(11, "changed of the filled one", x.changed(), 0);
        return x;
    }

    private static void newObject() {
        int[] asked = {Integer.MIN_VALUE, -1, 0, 15, 16, 17, 127, 128, 129, Integer.MAX_VALUE};
        int[] given = {16, 16, 16, 16, 16, 17, 127, 128, 128, 128};
        for (int i = 0; i < asked.length; i++) {
            SessionTables x = new SessionTables(asked[i]);
            due(1, "left of " + asked[i], x.left(), given[i]);
            due(1, "last word of " + asked[i], x.word(given[i] - 1, 15), 0);
            due(1, "word behind " + asked[i], x.word(given[i], 0), BAD);
        }
        SessionTables x = new SessionTables(20);
        due(1, "changed", x.changed(), 1);
        due(1, "tables", x.tables(), 0);
        due(1, "kind of the root", x.kind(0, 0), 1);
        due(1, "items of the root", x.items(0, 0), 0);
        for (int node = 1; node < 8; node++) {
            due(1, "kind of node " + node, x.kind(0, node), BAD);
        }
        due(1, "close", x.close(), 2);
    }

    private static void make() {
        SessionTables x = new SessionTables(128);
        due(2, "make a directory", x.make(0, 0, true), 1);
        due(2, "make a file in it", x.make(1, 99, false), 2);
        due(2, "kind", x.kind(0, 1), 1);
        due(2, "kind", x.kind(0, 2), 2);
        due(2, "items of new file", x.items(0, 2), 0);
        due(2, "make in a file", x.make(2, 5, false), BAD);
        due(2, "make in a node not there", x.make(3, 5, false), BAD);
        due(2, "make in node 8", x.make(8, 5, false), BAD);
        due(2, "make with name -1", x.make(0, -1, false), BAD);
        due(2, "make with name 100", x.make(0, 100, false), BAD);
        for (int far : FAR) {
            due(2, "make in " + far, x.make(far, 5, false), BAD);
            due(2, "make with name " + far, x.make(0, far, false), BAD);
        }
        due(2, "make of a name that is there", x.make(0, 0, false), TAKEN);
        due(2, "the same name elsewhere", x.make(1, 0, false), 3);
        due(2, "last item", x.item(0, 1, 1), 3);
        due(2, "changed", x.changed(), 4);
        x.close();
        due(2, "remove", x.remove(1, 99), 2);
        due(2, "the least number again", x.make(0, 50, true), 2);
        due(2, "it is a directory now", x.kind(0, 2), 1);
        due(2, "changed", x.changed(), 3);
        for (int node = 4; node < 8; node++) {
            due(2, "make", x.make(2, node, false), node);
        }
        due(2, "all there", x.make(0, 60, false), MANY);
        due(2, "TAKEN before MANY", x.make(0, 50, false), TAKEN);
        due(2, "BAD before MANY", x.make(0, 100, false), BAD);
        due(2, "items", x.items(0, 2), 4);
    }

    private static void makeFull() {
        SessionTables x = closedWithLeft(2);
        due(2, "make, 2 left, 2 more changed", x.make(0, 2, false), FULL);
        due(2, "TAKEN before FULL", x.make(0, 1, false), TAKEN);
        due(2, "BAD before FULL", x.make(1, 2, false), BAD);
        due(2, "nothing happened", x.changed(), 0);
        due(2, "nothing happened", x.kind(0, 2), BAD);
        SessionTables y = closedWithLeft(3);
        due(2, "make, 3 left, 2 more changed", y.make(0, 2, false), 2);
        due(2, "make, 3 left, 3 changed", y.make(0, 3, false), FULL);
        due(2, "close", y.close(), 3);
    }

    private static void write() {
        SessionTables x = withFile(64);
        x.make(0, 2, true);
        x.close();
        due(3, "write", x.write(1, 0, 65535), 4);
        dueSector(3, x, 4, 1, 0, 4, 1, 65535);
        due(3, "changed", x.changed(), 1);
        due(3, "write 0", x.write(1, 1, 0), 5);
        due(3, "block in the stead", x.write(1, 0, 77), 6);
        due(3, "items", x.items(0, 1), 2);
        due(3, "block 0", x.block(0, 1, 0), 77);
        due(3, "block 1", x.block(0, 1, 1), 0);
        due(3, "the old sector stays", x.word(4, 4), 65535);
        due(3, "value -1", x.write(1, 0, -1), BAD);
        due(3, "value 65536", x.write(1, 0, 65536), BAD);
        due(3, "k behind the end", x.write(1, 3, 1), BAD);
        due(3, "a directory", x.write(2, 0, 1), BAD);
        due(3, "the root", x.write(0, 0, 1), BAD);
        due(3, "a node not there", x.write(3, 0, 1), BAD);
        due(3, "node 8", x.write(8, 0, 1), BAD);
        for (int far : FAR) {
            due(3, "file " + far, x.write(far, 0, 1), BAD);
            due(3, "block " + far, x.write(1, far, 1), BAD);
            due(3, "value " + far, x.write(1, 0, far), BAD);
        }
        due(3, "nothing written by the refused", x.left(), 57);
        for (int k = 2; k < 10; k++) {
            due(3, "write", x.write(1, k, k), 5 + k);
        }
        due(3, "block 10", x.write(1, 10, 1), BAD);
        due(3, "items", x.items(0, 1), 10);
        due(3, "close", x.close(), 2);
        dueSector(3, x, 15, 2, 0, 15, 1, 2, 10, 6, 5, 7, 8, 9, 10, 11, 12, 13, 14);
    }

    private static void writeFull() {
        SessionTables x = closedWithLeft(2);
        due(3, "write, 2 left", x.write(1, 0, 9), FULL);
        due(3, "BAD before FULL", x.write(1, 0, -1), BAD);
        x.arm(0);
        due(3, "FULL although a stop is armed", x.write(1, 0, 9), FULL);
        due(3, "nothing written", x.left(), 2);
        SessionTables y = closedWithLeft(3);
        due(3, "write, 3 left", y.write(1, 0, 9), 13);
        due(3, "write again, 2 left", y.write(1, 0, 9), FULL);
        due(3, "close", y.close(), 2);
        due(3, "left", y.left(), 0);
    }

    private static void remove() {
        SessionTables x = new SessionTables(64);
        for (int node = 1; node < 5; node++) {
            x.make(0, 10 * node, node == 2);
        }
        x.make(2, 7, false);
        x.close();
        due(4, "a directory with items", x.remove(0, 20), BUSY);
        due(4, "no such item", x.remove(0, 7), BAD);
        due(4, "name -1", x.remove(0, -1), BAD);
        due(4, "name 100", x.remove(0, 100), BAD);
        due(4, "in a file", x.remove(1, 7), BAD);
        due(4, "in a node not there", x.remove(6, 7), BAD);
        due(4, "in node 8", x.remove(8, 7), BAD);
        for (int far : FAR) {
            due(4, "in " + far, x.remove(far, 7), BAD);
            due(4, "name " + far, x.remove(0, far), BAD);
        }
        due(4, "nothing changed by the refused", x.changed(), 0);
        due(4, "remove the file in it", x.remove(2, 7), 5);
        due(4, "changed", x.changed(), 1);
        due(4, "kind", x.kind(0, 5), BAD);
        due(4, "remove the first", x.remove(0, 10), 1);
        due(4, "items move up", x.item(0, 0, 0), 20 * 16 + 2);
        due(4, "items move up", x.item(0, 0, 1), 30 * 16 + 3);
        due(4, "items move up", x.item(0, 0, 2), 40 * 16 + 4);
        due(4, "no more items", x.item(0, 0, 3), BAD);
        due(4, "changed", x.changed(), 2);
        due(4, "the empty directory goes", x.remove(0, 20), 2);
        due(4, "what is not there is not changed", x.changed(), 1);
        due(4, "a file with blocks", x.write(3, 0, 5), 7);
        due(4, "goes too", x.remove(0, 30), 3);
        due(4, "changed", x.changed(), 1);
        due(4, "close", x.close(), 2);
        dueSector(4, x, 8, 2, 0, 8, 0, 1, 1, 40 * 16 + 4);
        dueSector(4, x, 9, 3, 0, 9, 2, 9, 0, 0, 0, 5);
    }

    private static void removeFull() {
        SessionTables x = closedWithLeft(1);
        due(4, "remove, 1 left", x.remove(0, 1), FULL);
        due(4, "BAD before FULL", x.remove(0, 2), BAD);
        due(4, "still there", x.kind(0, 1), 2);
        SessionTables y = closedWithLeft(2);
        due(4, "remove, 2 left", y.remove(0, 1), 1);
        due(4, "close", y.close(), 2);
        SessionTables z = withFile(16);
        for (int i = 0; i < 11; i++) {
            z.write(1, 0, i);
        }
        z.close();
        z.spoil(13);
        z.crash();
        due(4, "left", z.left(), 2);
        due(4, "only the root", z.changed(), 1);
        due(4, "make", z.make(0, 5, false), FULL);
        SessionTables busy = new SessionTables(16);
        busy.make(0, 1, true);
        busy.make(1, 2, false);
        for (int i = 0; i < 12; i++) {
            busy.write(2, 0, i);
        }
        busy.close();
        due(4, "left", busy.left(), 0);
        due(4, "BUSY before FULL", busy.remove(0, 1), BUSY);
        due(4, "FULL", busy.remove(1, 2), FULL);
        SessionTables swap = closedWithLeft(3);
        due(4, "file is changed", swap.write(1, 0, 1), 13);
        due(4, "root in the stead of the file", swap.remove(0, 1), 1);
        due(4, "changed", swap.changed(), 1);
        due(4, "close", swap.close(), 2);
    }

    private static void move() {
        SessionTables x = new SessionTables(128);
        x.make(0, 1, true);
        x.make(0, 2, true);
        x.make(1, 3, true);
        x.make(3, 4, false);
        x.make(0, 5, false);
        x.close();
        due(5, "from a file", x.move(4, 1, 0, 9), BAD);
        due(5, "from a node not there", x.move(7, 1, 0, 9), BAD);
        due(5, "to a file", x.move(0, 1, 4, 9), BAD);
        due(5, "to a node not there", x.move(0, 1, 7, 9), BAD);
        due(5, "no such item", x.move(0, 3, 2, 9), BAD);
        due(5, "as 100", x.move(0, 1, 2, 100), BAD);
        for (int far : FAR) {
            due(5, "from " + far, x.move(far, 1, 2, 9), BAD);
            due(5, "name " + far, x.move(0, far, 2, 9), BAD);
            due(5, "to " + far, x.move(0, 1, far, 9), BAD);
            due(5, "as " + far, x.move(0, 1, 2, far), BAD);
        }
        due(5, "taken", x.move(1, 3, 0, 2), TAKEN);
        due(5, "taken by itself", x.move(0, 1, 0, 1), TAKEN);
        due(5, "into itself", x.move(0, 1, 1, 9), LOOP);
        due(5, "below itself", x.move(0, 1, 3, 9), LOOP);
        due(5, "TAKEN before LOOP", x.move(0, 1, 3, 4), TAKEN);
        due(5, "BAD before LOOP", x.move(0, 1, 3, 100), BAD);
        due(5, "nothing changed by the refused", x.changed(), 0);
        due(5, "move", x.move(1, 3, 2, 33), 3);
        due(5, "only the directories are changed", x.changed(), 2);
        due(5, "it left", x.items(0, 1), 0);
        due(5, "it came", x.item(0, 2, 0), 33 * 16 + 3);
        due(5, "its items came along", x.find(0, 3, 4), 4);
        due(5, "no loop any more", x.move(0, 1, 3, 9), 1);
        due(5, "deep loop", x.move(0, 2, 1, 0), LOOP);
        due(5, "in the same directory", x.move(0, 2, 0, 99), 2);
        due(5, "others move up", x.item(0, 0, 0), 5 * 16 + 5);
        due(5, "it is the last", x.item(0, 0, 1), 99 * 16 + 2);
        due(5, "items", x.items(0, 0), 2);
        due(5, "changed", x.changed(), 4);
        due(5, "a file", x.move(3, 4, 0, 0), 4);
        due(5, "last of the root", x.item(0, 0, 2), 4);
    }

    private static void moveFull() {
        SessionTables x = closedWithLeft(1);
        due(5, "in one directory, 1 left", x.move(0, 1, 0, 2), FULL);
        due(5, "TAKEN before FULL", x.move(0, 1, 0, 1), TAKEN);
        due(5, "BAD before FULL", x.move(0, 3, 0, 2), BAD);
        SessionTables y = closedWithLeft(2);
        due(5, "in one directory, 2 left", y.move(0, 1, 0, 2), 1);
        due(5, "close", y.close(), 2);
        for (int left = 2; left < 4; left++) {
            SessionTables z = new SessionTables(16);
            z.make(0, 1, true);
            z.make(0, 2, false);
            for (int i = 0; i < 12 - left; i++) {
                z.write(2, 0, i);
            }
            z.close();
            due(5, "left", z.left(), left);
            due(5, "LOOP before FULL", z.move(0, 1, 1, 7), LOOP);
            due(5, "over two directories", z.move(0, 2, 1, 2), left == 2 ? FULL : 2);
            due(5, "where it is", z.find(0, 0, 2), left == 2 ? 2 : BAD);
        }
    }

    private static void close() {
        SessionTables x = new SessionTables(32);
        due(6, "close of the empty tree", x.close(), 2);
        dueSector(6, x, 0, 2, 0, 0, 0, 1);
        dueSector(6, x, 1, 3, 0, 1, 1, 1);
        due(6, "close again", x.close(), 0);
        due(6, "changed", x.changed(), 0);
        x.make(0, 1, true);
        x.make(1, 2, false);
        x.write(2, 0, 44);
        due(6, "close", x.close(), 4);
        dueSector(6, x, 3, 2, 0, 3, 0, 1, 1, 17);
        dueSector(6, x, 4, 2, 0, 4, 1, 1, 1, 34);
        dueSector(6, x, 5, 2, 0, 5, 2, 2, 1, 2);
        dueSector(6, x, 6, 3, 0, 6, 2, 4, 5, 6);
        x.write(2, 1, 45);
        due(6, "only what changed", x.close(), 2);
        dueSector(6, x, 8, 2, 0, 8, 2, 2, 2, 2, 7);
        dueSector(6, x, 9, 3, 0, 9, 3, 4, 5, 9);
        due(6, "close of nothing", x.close(), 0);
        due(6, "left", x.left(), 22);
    }

    private static void closeNumbers() {
        SessionTables x = withFile(64);
        x.close();
        x.write(1, 0, 1);
        x.close();
        due(6, "second table", x.word(5, 3), 2);
        x.spoil(5);
        x.write(1, 0, 2);
        due(6, "close", x.close(), 2);
        due(6, "1 more than the newest valid", x.word(8, 3), 2);
        x.spoil(5);
        due(6, "tables", x.tables(), 3);
        due(6, "crash", x.crash(), 2);
        x.write(1, 0, 7);
        due(6, "close", x.close(), 2);
        due(6, "1 more than the newest, not than how many", x.word(11, 3), 3);
        x.spoil(0);
        due(6, "without the root's entry", x.tables(), 0);
        x.write(1, 0, 3);
        due(6, "close", x.close(), 2);
        due(6, "without a valid table", x.word(14, 3), 1);
    }

    private static void closeOverSpoiledEntry() {
        SessionTables x = withFile(64);
        x.close();
        x.spoil(0);
        x.write(1, 0, 3);
        due(6, "close names the spoiled entry", x.close(), 2);
        due(6, "the root's entry", x.word(5, 4), 1);
        due(12, "tables", x.tables(), 0);
        due(13, "the tree is not touched", x.kind(0, 1), 2);
        due(8, "crash", x.crash(), 0);
        due(8, "the empty tree", x.kind(0, 1), BAD);
        due(11, "the empty tree is changed", x.changed(), 1);
    }

    private static void closeFull() {
        for (int left = 0; left < 3; left++) {
            SessionTables x = closedWithLeft(left);
            x.spoil(15 - left);
            due(8, "crash", x.crash(), 0);
            due(11, "changed", x.changed(), 1);
            due(6, "close", x.close(), left < 2 ? FULL : 2);
            due(11, "changed", x.changed(), left < 2 ? 1 : 0);
        }
    }

    private static void arm() {
        SessionTables x = withFile(64);
        x.close();
        due(7, "arm(-1)", x.arm(-1), false);
        due(7, "arm(1001)", x.arm(1001), false);
        for (int far : FAR) {
            due(7, "arm of " + far, x.arm(far), false);
        }
        due(7, "nothing armed", x.write(1, 0, 1), 3);
        due(7, "arm(1000)", x.arm(1000), true);
        due(7, "far off", x.write(1, 0, 2), 4);
        due(7, "arm(0)", x.arm(0), true);
        due(7, "a refused arm leaves it", x.arm(1001), false);
        due(7, "write", x.write(1, 0, 3), TORN);
        due(7, "the torn sector is written", x.left(), 58);
        due(7, "its check", x.word(5, 1), Due.check(x, 5) ^ 1);
        due(7, "its value", x.word(5, 4), 3);
        due(7, "read back", x.items(0, 1), 0);
        due(7, "read back", x.changed(), 0);
        due(7, "not armed any more", x.write(1, 0, 4), 6);
        x.arm(0);
        due(7, "in the place of the other", x.arm(2), true);
        due(7, "first", x.write(1, 0, 5), 7);
        due(7, "refused: no sector", x.write(1, 9, 5), BAD);
        due(7, "second", x.write(1, 0, 6), 8);
        due(7, "third", x.write(1, 0, 7), TORN);
        x.write(1, 0, 1);
        x.arm(1);
        x.write(1, 0, 2);
        x.arm(1);
        due(7, "counted from the last arm on", x.write(1, 0, 3), 12);
        due(7, "torn", x.write(1, 0, 4), TORN);
    }

    private static void tornClose() {
        for (int k = 0; k < 5; k++) {
            SessionTables x = new SessionTables(64);
            x.close();
            x.make(0, 1, true);
            x.make(1, 2, false);
            x.write(2, 0, 9);
            x.arm(k);
            due(6, "close after arm " + k, x.close(), k < 4 ? TORN : 4);
            due(6, "left after arm " + k, x.left(), k < 4 ? 60 - k : 57);
            due(6, "kind after arm " + k, x.kind(0, 2), k < 4 ? BAD : 2);
            due(6, "changed after arm " + k, x.changed(), 0);
            due(6, "tables after arm " + k, x.tables(), k < 4 ? 1 : 2);
            due(6, "next make after arm " + k, x.make(0, 50, false), k < 4 ? 1 : 3);
            due(6, "next close after arm " + k, x.close(), k < 4 ? 3 : TORN);
        }
        SessionTables first = withFile(32);
        first.arm(0);
        due(6, "first close torn", first.close(), TORN);
        due(6, "the empty tree", first.kind(0, 1), BAD);
        due(6, "which is changed", first.changed(), 1);
    }

    private static void crash() {
        SessionTables x = new SessionTables(64);
        due(8, "crash of a new one", x.crash(), 0);
        due(8, "changed", x.changed(), 1);
        x.make(0, 1, false);
        due(8, "crash", x.crash(), 0);
        due(8, "the empty tree", x.items(0, 0), 0);
        x.make(0, 1, false);
        x.write(1, 0, 10);
        x.close();
        x.make(0, 2, true);
        x.write(1, 0, 20);
        x.arm(0);
        due(8, "crash", x.crash(), 1);
        due(8, "kind", x.kind(0, 2), BAD);
        due(8, "block", x.block(0, 1, 0), 10);
        due(8, "changed", x.changed(), 0);
        due(8, "not armed any more", x.write(1, 0, 30), 5);
        x.close();
        due(8, "crash", x.crash(), 2);
        due(8, "block", x.block(0, 1, 0), 30);
        x.spoil(6);
        due(8, "newest table's entry spoiled", x.crash(), 1);
        due(8, "block", x.block(0, 1, 0), 10);
        x.make(0, 3, false);
        x.close();
        due(8, "the old entries are named", x.word(10, 5), 3);
    }

    private static void spoil() {
        SessionTables x = withFile(20);
        due(9, "nothing written", x.spoil(0), false);
        x.write(1, 0, 6);
        x.close();
        int check = x.word(0, 1);
        due(9, "spoil", x.spoil(0), true);
        due(9, "word 1", x.word(0, 1), check ^ 1);
        due(9, "block", x.block(0, 1, 0), SPOILED);
        due(9, "data does not touch the table", x.tables(), 1);
        due(9, "spoil again", x.spoil(0), true);
        due(9, "block", x.block(0, 1, 0), 6);
        due(9, "behind the written", x.spoil(4), false);
        due(9, "behind the medium", x.spoil(20), false);
        for (int far : FAR) {
            due(9, "spoil of " + far, x.spoil(far), false);
        }
        due(9, "the table", x.spoil(3), true);
        due(9, "tables", x.tables(), 0);
        due(9, "the tree is not touched", x.kind(0, 1), 2);
        due(9, "nor changed", x.changed(), 0);
        due(9, "so close has nothing to do", x.close(), 0);
    }

    private static void spoilMendsTorn() {
        SessionTables x = withFile(64);
        x.close();
        x.write(1, 0, 8);
        x.arm(1);
        due(9, "torn table", x.close(), TORN);
        due(9, "tables", x.tables(), 1);
        due(9, "mend it", x.spoil(5), true);
        due(9, "tables", x.tables(), 2);
        due(9, "the tree is not touched", x.items(0, 1), 0);
        due(9, "look at it", x.block(2, 1, 0), 8);
        due(9, "crash", x.crash(), 2);
        due(9, "block", x.block(0, 1, 0), 8);
    }

    private static void leftAndChanged() {
        SessionTables x = new SessionTables(30);
        due(10, "left", x.left(), 30);
        due(11, "changed", x.changed(), 1);
        x.make(0, 1, true);
        due(10, "left", x.left(), 30);
        due(11, "changed", x.changed(), 2);
        x.make(0, 2, false);
        due(11, "changed", x.changed(), 3);
        x.write(2, 0, 1);
        due(10, "left", x.left(), 29);
        due(11, "changed", x.changed(), 3);
        x.remove(0, 1);
        due(11, "changed", x.changed(), 2);
        x.close();
        due(10, "left", x.left(), 26);
        due(11, "changed", x.changed(), 0);
        x.write(2, 0, 1);
        due(11, "changed", x.changed(), 1);
        x.crash();
        due(11, "changed", x.changed(), 0);
        due(10, "left", x.left(), 25);
    }

    private static void tables() {
        SessionTables x = withFile(64);
        due(12, "tables", x.tables(), 0);
        x.close();
        x.write(1, 0, 100);
        x.close();
        x.make(0, 2, true);
        x.close();
        due(12, "tables", x.tables(), 3);
        x.spoil(4);
        due(12, "two name that entry", x.tables(), 1);
        due(13, "the first is not touched", x.items(1, 1), 0);
        due(13, "no second", x.kind(2, 0), BAD);
        x.spoil(4);
        x.spoil(2);
        due(12, "tables", x.tables(), 2);
        due(17, "the second is the first now", x.block(1, 1, 0), 100);
        due(13, "the third is the second now", x.kind(2, 2), 1);
        due(13, "no third", x.kind(3, 0), BAD);
    }

    private static void looksBack() {
        SessionTables x = new SessionTables(64);
        x.make(0, 10, true);
        x.make(1, 20, false);
        x.write(2, 0, 1000);
        x.write(2, 1, 1001);
        x.close();
        x.write(2, 1, 2001);
        x.move(1, 20, 0, 30);
        x.close();
        x.remove(0, 30);
        x.make(0, 40, true);
        int[][] kinds = {{1, 1, 1}, {1, 1, 2}, {1, 1, 2}};
        int[][] counts = {{2, 0, 0}, {1, 1, 2}, {2, 0, 2}};
        for (int at = 0; at < 3; at++) {
            for (int node = 0; node < 8; node++) {
                due(13, "kind(" + at + ", " + node + ")", x.kind(at, node), node < 3 ? kinds[at][node] : BAD);
                due(14, "items(" + at + ", " + node + ")", x.items(at, node), node < 3 ? counts[at][node] : BAD);
            }
        }
        due(15, "find", x.find(0, 0, 40), 2);
        due(15, "find", x.find(0, 0, 30), BAD);
        due(15, "find", x.find(1, 1, 20), 2);
        due(15, "find", x.find(2, 1, 20), BAD);
        due(15, "find", x.find(2, 0, 30), 2);
        due(16, "item", x.item(0, 0, 1), 40 * 16 + 2);
        due(16, "item", x.item(1, 0, 0), 10 * 16 + 1);
        due(16, "item", x.item(1, 0, 1), BAD);
        due(16, "item", x.item(2, 0, 1), 30 * 16 + 2);
        due(17, "block", x.block(0, 2, 0), BAD);
        due(17, "block", x.block(1, 2, 1), 1001);
        due(17, "block", x.block(2, 2, 0), 1000);
        due(17, "block", x.block(2, 2, 1), 2001);
        due(11, "looking changes nothing", x.changed(), 2);
    }

    private static void looksWrong() {
        SessionTables x = withFile(64);
        x.write(1, 0, 4);
        x.close();
        for (int at : new int[] {Integer.MIN_VALUE, -1, 2, Integer.MAX_VALUE}) {
            due(13, "kind at " + at, x.kind(at, 0), BAD);
            due(14, "items at " + at, x.items(at, 0), BAD);
            due(15, "find at " + at, x.find(at, 0, 1), BAD);
            due(16, "item at " + at, x.item(at, 0, 0), BAD);
            due(17, "block at " + at, x.block(at, 1, 0), BAD);
        }
        for (int at = 0; at < 2; at++) {
            for (int node : new int[] {Integer.MIN_VALUE, -1, 2, 7, 8, Integer.MAX_VALUE}) {
                due(13, "kind of " + node, x.kind(at, node), BAD);
                due(14, "items of " + node, x.items(at, node), BAD);
                due(15, "find in " + node, x.find(at, node, 1), BAD);
                due(16, "item of " + node, x.item(at, node, 0), BAD);
                due(17, "block of " + node, x.block(at, node, 0), BAD);
            }
            for (int far : FAR) {
                due(15, "find of " + far, x.find(at, 0, far), BAD);
                due(16, "item " + far, x.item(at, 0, far), BAD);
                due(17, "block " + far, x.block(at, 1, far), BAD);
            }
            due(15, "find in a file", x.find(at, 1, 0), BAD);
            due(15, "find name 2", x.find(at, 0, 2), BAD);
            due(15, "find name 100", x.find(at, 0, 100), BAD);
            due(16, "item behind the last", x.item(at, 0, 1), BAD);
            due(16, "item of a file", x.item(at, 1, 0), BAD);
            due(17, "block of a directory", x.block(at, 0, 0), BAD);
            due(17, "block behind the last", x.block(at, 1, 1), BAD);
        }
    }

    private static void block() {
        SessionTables x = withFile(64);
        x.write(1, 0, 65535);
        x.close();
        x.write(1, 0, 2);
        x.spoil(0);
        due(17, "the new one is good", x.block(0, 1, 0), 2);
        due(17, "the old one is not", x.block(1, 1, 0), SPOILED);
        due(17, "BAD for what is not there", x.block(1, 1, 1), BAD);
        x.spoil(4);
        due(17, "now neither", x.block(0, 1, 0), SPOILED);
        due(17, "writing over it", x.write(1, 0, 3), 5);
        due(17, "is good again", x.block(0, 1, 0), 3);
    }

    private static void word() {
        SessionTables x = withFile(20);
        x.write(1, 0, 6);
        due(18, "word", x.word(0, 4), 6);
        due(18, "word 15", x.word(0, 15), 0);
        for (int i = 0; i < 16; i++) {
            due(18, "not written", x.word(1, i), 0);
            due(18, "last sector", x.word(19, i), 0);
        }
        due(18, "word 16", x.word(0, 16), BAD);
        due(18, "sector 20", x.word(20, 0), BAD);
        for (int far : FAR) {
            due(18, "sector " + far, x.word(far, 0), BAD);
            due(18, "word " + far, x.word(0, far), BAD);
        }
    }

    /** Checks worked out once outside of Java, so that a fault in both loops here would show. */
    private static void checks() {
        SessionTables x = withFile(16);
        x.write(1, 0, 65535);
        x.close();
        int[] want = {36475, 10629, 14740, 18540};
        for (int place = 0; place < 4; place++) {
            due(18, "check of sector " + place, x.word(place, 1), want[place]);
        }
    }
}
