/** Promises 10 to 18: a test for each sentence that names a boundary. */
public final class LookBoundaryTest {
    private static final int BAD = SessionTables.BAD;
    private static final int TORN = SessionTables.TORN;
    private static final int SPOILED = SessionTables.SPOILED;
    private static final int[] NO_TABLES = {Integer.MIN_VALUE, -1, 3, 256 + 1, 65536 + 1, Integer.MAX_VALUE};
    private static final int[] NO_NODES = {Integer.MIN_VALUE, -1, 8, 16, 256 + 1, 65536 + 2, Integer.MAX_VALUE};
    private static final int[] NO_NAMES = {Integer.MIN_VALUE, -1, 100, 256 + 1, (1 << 28) + 1, Integer.MAX_VALUE};

    public static void main(String[] args) {
        leftFromAllToNone();
        leftAfterTornSector();
        changedFromNoneToAll();
        tablesFromNone();
        tablesCountsOnlyValid();
        tableZeroIsTheTree();
        tableAsReadingBackWouldMakeIt();
        kindOfNoTable();
        kindOfNoNode();
        itemsOfEmptyAndFull();
        itemsOfNoTable();
        itemsOfNoNode();
        findFirstAndLast();
        findOfNoTable();
        findInNoDirectory();
        findOfNoItem();
        itemFirstAndLast();
        itemOfNoTable();
        itemInNoDirectory();
        itemOfNoItem();
        blockFirstAndLast();
        blockOfNoTable();
        blockOfNoFile();
        blockOfNoBlock();
        blockSpoiled();
        blockSpoiledInOneTree();
        wordOfUnwritten();
        wordOfNoSector();
        wordOfNoWord();
        Due.end();
    }

    /**
     * Two valid tables: in the first a directory 1 with a file 2 of ten blocks and an empty file 3, in the
     * second the directory is empty and the file 2 is in the root; then file 3 goes and a directory comes.
     */
    private static SessionTables twoTables() {
        SessionTables x = new SessionTables(64);
        x.make(0, 1, true);
        x.make(1, 99, false);
        x.make(1, 0, false);
        for (int k = 0; k < 10; k++) {
            x.write(2, k, 100 + k);
        }
        x.close();
        x.move(1, 99, 0, 50);
        x.write(2, 0, 200);
        x.move(1, 0, 0, 51);
        x.close();
        x.remove(0, 51);
        x.make(1, 7, true);
        return x;
    }

    private static void leftFromAllToNone() {
        Due.sentence("10: How many sectors are not written");
        SessionTables x = new SessionTables(16);
        Due.is("left()", x.left(), 16);
        x.make(0, 1, false);
        Due.is("left()", x.left(), 16);
        for (int left = 15; left >= 3; left--) {
            x.write(1, 0, left);
            Due.is("left()", x.left(), left);
        }
        x.close();
        Due.is("left()", x.left(), 0);
        x.spoil(15);
        x.crash();
        Due.is("left()", x.left(), 0);
    }

    private static void leftAfterTornSector() {
        Due.sentence("10: How many sectors are not written (a torn one is)");
        SessionTables x = new SessionTables(128);
        x.arm(0);
        Due.is("close()", x.close(), TORN);
        Due.is("left()", x.left(), 127);
    }

    private static void changedFromNoneToAll() {
        Due.sentence("11: How many nodes are changed");
        SessionTables x = new SessionTables(128);
        Due.is("changed()", x.changed(), 1);
        for (int node = 1; node < 8; node++) {
            x.make(0, node, false);
            Due.is("changed()", x.changed(), node + 1);
        }
        x.close();
        Due.is("changed()", x.changed(), 0);
        for (int node = 1; node < 8; node++) {
            x.write(node, 0, 1);
            Due.is("changed()", x.changed(), node);
        }
        for (int node = 1; node < 8; node++) {
            x.remove(0, node);
            Due.is("changed()", x.changed(), 8 - node);
        }
    }

    private static void tablesFromNone() {
        Due.sentence("12: How many valid tables there are");
        SessionTables x = new SessionTables(64);
        Due.is("tables()", x.tables(), 0);
        for (int i = 1; i <= 20; i++) {
            x.make(0, i, false);
            x.remove(0, i);
            x.close();
            Due.is("tables()", x.tables(), i);
        }
        x.close();
        Due.is("tables() after a close of nothing", x.tables(), 20);
    }

    private static void tablesCountsOnlyValid() {
        Due.sentence("12: How many valid tables there are (neither entries nor data, nor what is spoiled)");
        SessionTables x = new SessionTables(64);
        x.make(0, 1, false);
        x.write(1, 0, 3);
        Due.is("tables()", x.tables(), 0);
        x.close();
        Due.is("tables()", x.tables(), 1);
        x.write(1, 0, 3);
        x.close();
        x.spoil(1);
        Due.is("tables(): both name the root's entry", x.tables(), 0);
        x.spoil(1);
        x.spoil(6);
        Due.is("tables()", x.tables(), 1);
        x.spoil(3);
        Due.is("tables()", x.tables(), 0);
    }

    private static void tableZeroIsTheTree() {
        Due.sentence("13: at = 0 is the tree as it is");
        SessionTables x = twoTables();
        Due.is("kind(0, 3)", x.kind(0, 3), 1);
        Due.is("items(0, 1)", x.items(0, 1), 1);
        Due.is("find(0, 1, 7)", x.find(0, 1, 7), 3);
        Due.is("item(0, 0, 1)", x.item(0, 0, 1), 50 * 16 + 2);
        Due.is("block(0, 2, 0)", x.block(0, 2, 0), 200);
        SessionTables y = new SessionTables(16);
        Due.is("kind(0, 0) without a table", y.kind(0, 0), 1);
        Due.is("kind(1, 0) without a table", y.kind(1, 0), BAD);
    }

    private static void tableAsReadingBackWouldMakeIt() {
        Due.sentence("13: at = 1, 2, .. what reading back would make of the at-th valid table");
        SessionTables x = twoTables();
        Due.is("kind(1, 3)", x.kind(1, 3), 2);
        Due.is("kind(2, 3)", x.kind(2, 3), 2);
        Due.is("items(1, 0)", x.items(1, 0), 1);
        Due.is("items(2, 0)", x.items(2, 0), 3);
        Due.is("find(1, 1, 99)", x.find(1, 1, 99), 2);
        Due.is("find(2, 1, 99)", x.find(2, 1, 99), BAD);
        Due.is("item(2, 0, 2)", x.item(2, 0, 2), 51 * 16 + 3);
        Due.is("block(1, 2, 0)", x.block(1, 2, 0), 100);
        Due.is("block(2, 2, 0)", x.block(2, 2, 0), 200);
        x.spoil(14);
        Due.is("items(1, 0): the second table is the first now", x.items(1, 0), 3);
        Due.is("items(2, 0)", x.items(2, 0), BAD);
        Due.is("changed()", x.changed(), 3);
    }

    private static void kindOfNoTable() {
        Due.sentence("13: BAD if there is no such table");
        SessionTables x = twoTables();
        for (int at : NO_TABLES) {
            Due.is("kind(" + at + ", 0)", x.kind(at, 0), BAD);
        }
        Due.is("kind(2, 0)", x.kind(2, 0), 1);
    }

    private static void kindOfNoNode() {
        Due.sentence("13: BAD if there is no such node");
        SessionTables x = twoTables();
        for (int at = 0; at < 3; at++) {
            for (int node : NO_NODES) {
                Due.is("kind(" + at + ", " + node + ")", x.kind(at, node), BAD);
            }
            Due.is("kind(" + at + ", 4)", x.kind(at, 4), BAD);
            Due.is("kind(" + at + ", 7)", x.kind(at, 7), BAD);
            Due.is("kind(" + at + ", 0)", x.kind(at, 0), 1);
            Due.is("kind(" + at + ", 2)", x.kind(at, 2), 2);
        }
    }

    private static void itemsOfEmptyAndFull() {
        Due.sentence("14: The number of items of a directory or blocks of a file");
        SessionTables x = twoTables();
        int[][] want = {{2, 1, 10, 0}, {1, 2, 10, 0}, {3, 0, 10, 0}};
        for (int at = 0; at < 3; at++) {
            for (int node = 0; node < 4; node++) {
                Due.is("items(" + at + ", " + node + ")", x.items(at, node), want[at][node]);
            }
        }
        SessionTables y = new SessionTables(32);
        for (int node = 1; node < 8; node++) {
            y.make(0, node, false);
        }
        y.close();
        Due.is("items(0, 0) of seven", y.items(0, 0), 7);
        Due.is("items(1, 0) of seven", y.items(1, 0), 7);
    }

    private static void itemsOfNoTable() {
        Due.sentence("14: BAD if there is no such table");
        SessionTables x = twoTables();
        for (int at : NO_TABLES) {
            Due.is("items(" + at + ", 0)", x.items(at, 0), BAD);
        }
    }

    private static void itemsOfNoNode() {
        Due.sentence("14: BAD if there is no such node");
        SessionTables x = twoTables();
        for (int at = 0; at < 3; at++) {
            for (int node : NO_NODES) {
                Due.is("items(" + at + ", " + node + ")", x.items(at, node), BAD);
            }
            Due.is("items(" + at + ", 4)", x.items(at, 4), BAD);
            Due.is("items(" + at + ", 7)", x.items(at, 7), BAD);
        }
    }

    private static void findFirstAndLast() {
        Due.sentence("15: The node of the item of the name in a directory");
        SessionTables x = new SessionTables(32);
        int[] names = {99, 1, 98, 2, 50, 97, 0};
        for (int i = 0; i < 7; i++) {
            x.make(0, names[i], false);
        }
        x.close();
        for (int i = 0; i < 7; i++) {
            Due.is("find(0, 0, " + names[i] + ")", x.find(0, 0, names[i]), i + 1);
            Due.is("find(1, 0, " + names[i] + ")", x.find(1, 0, names[i]), i + 1);
        }
    }

    private static void findOfNoTable() {
        Due.sentence("15: BAD if there is no such table");
        SessionTables x = twoTables();
        for (int at : NO_TABLES) {
            Due.is("find(" + at + ", 0, 1)", x.find(at, 0, 1), BAD);
        }
        Due.is("find(2, 0, 1)", x.find(2, 0, 1), 1);
    }

    private static void findInNoDirectory() {
        Due.sentence("15: BAD if there is no such directory");
        SessionTables x = twoTables();
        for (int at = 0; at < 3; at++) {
            for (int dir : NO_NODES) {
                Due.is("find(" + at + ", " + dir + ", 1)", x.find(at, dir, 1), BAD);
            }
            Due.is("find in node 7", x.find(at, 7, 0), BAD);
            for (int name = 0; name < 2; name++) {
                Due.is("find in a file", x.find(at, 2, name), BAD);
            }
        }
    }

    private static void findOfNoItem() {
        Due.sentence("15: BAD if there is no such item");
        SessionTables x = twoTables();
        for (int at = 0; at < 3; at++) {
            for (int name : NO_NAMES) {
                Due.is("find(" + at + ", 0, " + name + ")", x.find(at, 0, name), BAD);
            }
            Due.is("find(" + at + ", 0, 0)", x.find(at, 0, 0), BAD);
            Due.is("find(" + at + ", 1, 50)", x.find(at, 1, 50), BAD);
        }
        Due.is("find of what has left", x.find(0, 0, 51), BAD);
        Due.is("find of what had not come", x.find(1, 0, 51), BAD);
    }

    private static void itemFirstAndLast() {
        Due.sentence("16: Item i of a directory: name * 16 + node");
        SessionTables x = new SessionTables(32);
        int[] names = {99, 1, 98, 2, 50, 97, 0};
        for (int i = 0; i < 7; i++) {
            x.make(0, names[i], false);
        }
        x.close();
        for (int i = 0; i < 7; i++) {
            Due.is("item(0, 0, " + i + ")", x.item(0, 0, i), names[i] * 16 + i + 1);
            Due.is("item(1, 0, " + i + ")", x.item(1, 0, i), names[i] * 16 + i + 1);
        }
    }

    private static void itemOfNoTable() {
        Due.sentence("16: BAD if there is no such table");
        SessionTables x = twoTables();
        for (int at : NO_TABLES) {
            Due.is("item(" + at + ", 0, 0)", x.item(at, 0, 0), BAD);
        }
        Due.is("item(2, 0, 0)", x.item(2, 0, 0), 17);
    }

    private static void itemInNoDirectory() {
        Due.sentence("16: BAD if there is no such directory");
        SessionTables x = twoTables();
        for (int at = 0; at < 3; at++) {
            for (int dir : NO_NODES) {
                Due.is("item(" + at + ", " + dir + ", 0)", x.item(at, dir, 0), BAD);
            }
            Due.is("item of node 7", x.item(at, 7, 0), BAD);
            Due.is("item of a file with blocks", x.item(at, 2, 0), BAD);
        }
    }

    private static void itemOfNoItem() {
        Due.sentence("16: BAD if there is no such item");
        SessionTables x = twoTables();
        int[] counts = {2, 1, 3};
        for (int at = 0; at < 3; at++) {
            for (int i : new int[] {Integer.MIN_VALUE, -1, counts[at], 10, 16, 256, 65536, Integer.MAX_VALUE}) {
                Due.is("item(" + at + ", 0, " + i + ")", x.item(at, 0, i), BAD);
            }
            Due.is("the last item", x.item(at, 0, counts[at] - 1) > 0, true);
        }
        Due.is("item of an empty directory", x.item(2, 1, 0), BAD);
    }

    private static void blockFirstAndLast() {
        Due.sentence("17: The value of block k of a file");
        SessionTables x = twoTables();
        for (int k = 0; k < 10; k++) {
            Due.is("block(0, 2, " + k + ")", x.block(0, 2, k), k == 0 ? 200 : 100 + k);
            Due.is("block(1, 2, " + k + ")", x.block(1, 2, k), 100 + k);
            Due.is("block(2, 2, " + k + ")", x.block(2, 2, k), k == 0 ? 200 : 100 + k);
        }
    }

    private static void blockOfNoTable() {
        Due.sentence("17: BAD if there is no such table");
        SessionTables x = twoTables();
        for (int at : NO_TABLES) {
            Due.is("block(" + at + ", 2, 0)", x.block(at, 2, 0), BAD);
        }
    }

    private static void blockOfNoFile() {
        Due.sentence("17: BAD if there is no such file");
        SessionTables x = twoTables();
        for (int at = 0; at < 3; at++) {
            for (int file : NO_NODES) {
                Due.is("block(" + at + ", " + file + ", 0)", x.block(at, file, 0), BAD);
            }
            Due.is("block of node 7", x.block(at, 7, 0), BAD);
            Due.is("block of the root", x.block(at, 0, 0), BAD);
            Due.is("block of a directory", x.block(at, 1, 0), BAD);
        }
    }

    private static void blockOfNoBlock() {
        Due.sentence("17: BAD if there is no such block");
        SessionTables x = twoTables();
        for (int at = 0; at < 3; at++) {
            for (int k : new int[] {Integer.MIN_VALUE, -1, 10, 16, 256, 65536, Integer.MAX_VALUE}) {
                Due.is("block(" + at + ", 2, " + k + ")", x.block(at, 2, k), BAD);
            }
        }
        Due.is("block of an empty file", x.block(1, 3, 0), BAD);
        SessionTables y = new SessionTables(32);
        y.make(0, 1, false);
        y.write(1, 0, 5);
        Due.is("the only block", y.block(0, 1, 0), 5);
        Due.is("behind the only block", y.block(0, 1, 1), BAD);
    }

    private static void blockSpoiled() {
        Due.sentence("17: SPOILED if its data sector is not good");
        SessionTables x = twoTables();
        for (int k = 0; k < 10; k++) {
            x.spoil(k);
            for (int j = 0; j < 10; j++) {
                Due.is("block(1, 2, " + j + ") with " + k + " spoiled", x.block(1, 2, j), j == k ? SPOILED : 100 + j);
            }
            x.spoil(k);
        }
        x.spoil(9);
        Due.is("BAD where there is no block", x.block(1, 2, 10), BAD);
        Due.is("the table stays valid", x.tables(), 2);
        Due.is("items(1, 2)", x.items(1, 2), 10);
    }

    private static void blockSpoiledInOneTree() {
        Due.sentence("17: SPOILED if its data sector is not good (each tree has its own)");
        SessionTables x = twoTables();
        x.spoil(0);
        Due.is("block(0, 2, 0)", x.block(0, 2, 0), 200);
        Due.is("block(1, 2, 0)", x.block(1, 2, 0), SPOILED);
        Due.is("block(2, 2, 0)", x.block(2, 2, 0), 200);
        x.spoil(9);
        for (int at = 0; at < 3; at++) {
            Due.is("block(" + at + ", 2, 9)", x.block(at, 2, 9), SPOILED);
        }
        x.write(2, 9, 300);
        Due.is("block(0, 2, 9)", x.block(0, 2, 9), 300);
        Due.is("block(2, 2, 9)", x.block(2, 2, 9), SPOILED);
    }

    private static void wordOfUnwritten() {
        Due.sentence("18: 0 if it is not written");
        SessionTables x = new SessionTables(20);
        x.close();
        Due.is("word(1, 0)", x.word(1, 0), 3);
        for (int place = 2; place < 20; place++) {
            Due.unwritten(x, place);
        }
    }

    private static void wordOfNoSector() {
        Due.sentence("18: BAD if there is no such sector");
        for (int sectors : new int[] {16, 77, 128}) {
            SessionTables x = new SessionTables(sectors);
            x.close();
            for (int place : new int[] {Integer.MIN_VALUE, -16, -1, sectors, sectors + 1, 1 << 28, Integer.MAX_VALUE}) {
                Due.is("word(" + place + ", 0) of " + sectors, x.word(place, 0), BAD);
                Due.is("word(" + place + ", 15) of " + sectors, x.word(place, 15), BAD);
            }
            Due.is("word of the first", x.word(0, 0), 2);
            Due.is("word of the last", x.word(sectors - 1, 0), 0);
        }
    }

    private static void wordOfNoWord() {
        Due.sentence("18: BAD if there is no such word");
        SessionTables x = new SessionTables(16);
        x.make(0, 1, false);
        for (int k = 0; k < 10; k++) {
            x.write(1, k, 1);
        }
        x.close();
        for (int place : new int[] {0, 11, 12, 15}) {
            for (int i : new int[] {Integer.MIN_VALUE, -1, 16, 17, 32, 256, 65536, Integer.MAX_VALUE}) {
                Due.is("word(" + place + ", " + i + ")", x.word(place, i), BAD);
            }
        }
        Due.is("word(11, 15), the last block's place", x.word(11, 15), 9);
    }
}
