/** Promises 1 to 5: a test for each sentence that names a boundary. */
public final class TreeBoundaryTest {
    private static final int BAD = SessionTables.BAD;
    private static final int TAKEN = SessionTables.TAKEN;
    private static final int MANY = SessionTables.MANY;
    private static final int FULL = SessionTables.FULL;
    private static final int BUSY = SessionTables.BUSY;
    private static final int LOOP = SessionTables.LOOP;
    /** Numbers of no node; the last ones are 0 and 1 again if an int is cut or wraps. */
    private static final int[] NO_NODES = {Integer.MIN_VALUE, -1, 8, 16, Integer.MAX_VALUE, 256, 65536, 1 << 28,
        (1 << 28) + 1};
    private static final int[] NO_NAMES = {Integer.MIN_VALUE, -1, 100, Integer.MAX_VALUE, (1 << 28) + 1, 65536 + 1,
        256 + 1};

    public static void main(String[] args) {
        tooFewSectors();
        tooManySectors();
        sectorsBetween();
        noneWritten();
        newTreeIsEmpty();
        nothingArmed();
        makeAddsLast();
        makeTakesLeastNumber();
        makeLooksNotAtOldNames();
        makeIsEmpty();
        makeChangesBoth();
        makeNoDirectory();
        makeNames();
        makeTaken();
        makeMany();
        makeFull();
        writeBlocksInTurn();
        writeInTheStead();
        writeChangesFile();
        writeAnswersPlace();
        writeNoFile();
        writeValues();
        writeBlockNumbers();
        writeTenBlocks();
        writeFull();
        removeMovesUp();
        removeFreesTheNode();
        removeChangesDirectory();
        removeNoDirectory();
        removeNoItem();
        removeBusy();
        removeFull();
        moveBecomesLast();
        moveInOneDirectory();
        moveChangesBoth();
        moveKeepsTheNode();
        moveNoDirectory();
        moveNoItem();
        moveNames();
        moveTaken();
        moveTakenByItself();
        moveIntoItself();
        moveBelowItself();
        moveIsNoLoop();
        moveLoopAfterMoves();
        moveFull();
        Due.end();
    }

    private static void sectors(int asked, int given) {
        SessionTables x = new SessionTables(asked);
        Due.is("left() of " + asked, x.left(), given);
        Due.is("word of the last of " + asked, x.word(given - 1, 0), 0);
        Due.is("word behind the last of " + asked, x.word(given, 0), BAD);
        x.make(0, 1, false);
        for (int i = 0; i < given - 3; i++) {
            x.write(1, 0, i);
        }
        Due.is("write behind the last of " + asked, x.write(1, 0, 1), FULL);
        Due.is("close() of " + asked, x.close(), 3);
        Due.is("left() of " + asked, x.left(), 0);
    }

    private static void tooFewSectors() {
        Due.sentence("1: less than 16 counts as 16");
        for (int asked : new int[] {Integer.MIN_VALUE, -128, -1, 0, 1, 15}) {
            sectors(asked, 16);
        }
    }

    private static void tooManySectors() {
        Due.sentence("1: more than 128 as 128");
        for (int asked : new int[] {129, 256, 65536 + 20, Integer.MAX_VALUE}) {
            sectors(asked, 128);
        }
    }

    private static void sectorsBetween() {
        Due.sentence("1: A medium of so many sectors");
        for (int asked = 16; asked <= 128; asked++) {
            sectors(asked, asked);
        }
    }

    private static void noneWritten() {
        Due.sentence("1: none written");
        SessionTables x = new SessionTables(20);
        for (int place = 0; place < 20; place++) {
            Due.unwritten(x, place);
        }
        Due.is("spoil(0)", x.spoil(0), false);
        Due.is("tables()", x.tables(), 0);
    }

    private static void newTreeIsEmpty() {
        Due.sentence("1: the empty tree");
        SessionTables x = new SessionTables(20);
        Due.is("kind(0, 0)", x.kind(0, 0), 1);
        Due.is("items(0, 0)", x.items(0, 0), 0);
        Due.is("changed()", x.changed(), 1);
        for (int node = 1; node < 8; node++) {
            Due.is("kind(0, " + node + ")", x.kind(0, node), BAD);
        }
    }

    private static void nothingArmed() {
        Due.sentence("1: nothing armed");
        SessionTables x = new SessionTables(128);
        x.make(0, 1, false);
        for (int place = 0; place < 125; place++) {
            Due.is("write", x.write(1, 0, 1), place);
        }
        Due.is("close()", x.close(), 3);
        Due.is("close() of a new object", new SessionTables(16).close(), 2);
    }

    private static void makeAddsLast() {
        Due.sentence("2: becomes the last item of directory dir with the name");
        SessionTables x = new SessionTables(64);
        int[] names = {50, 99, 0, 49, 51, 1, 98};
        for (int i = 0; i < 7; i++) {
            Due.is("make", x.make(0, names[i], i == 3), i + 1);
            Due.is("items(0, 0)", x.items(0, 0), i + 1);
            Due.is("item(0, 0, " + i + ")", x.item(0, 0, i), names[i] * 16 + i + 1);
        }
        Due.is("item(0, 0, 0)", x.item(0, 0, 0), 50 * 16 + 1);
    }

    private static void makeTakesLeastNumber() {
        Due.sentence("2: it is the least number that is not there");
        SessionTables x = new SessionTables(128);
        for (int node = 1; node < 8; node++) {
            x.make(0, node, false);
        }
        x.close();
        x.remove(0, 6);
        x.remove(0, 2);
        x.remove(0, 7);
        Due.is("make", x.make(0, 20, false), 2);
        Due.is("make", x.make(0, 21, false), 6);
        x.remove(0, 1);
        Due.is("make", x.make(0, 22, false), 1);
        Due.is("make", x.make(0, 23, false), 7);
        Due.is("item(0, 0, 6)", x.item(0, 0, 6), 23 * 16 + 7);
    }

    private static void makeLooksNotAtOldNames() {
        Due.sentence("2: TAKEN if dir has an item of the name (has, not had)");
        SessionTables x = new SessionTables(64);
        x.make(0, 1, true);
        x.make(0, 2, false);
        x.close();
        x.remove(0, 2);
        Due.is("make with a name that went", x.make(0, 2, false), 2);
        x.move(0, 2, 1, 3);
        Due.is("make with a name that moved", x.make(0, 2, true), 3);
        Due.is("make with the name it moved to", x.make(1, 3, true), TAKEN);
        Due.is("the same name in another directory", x.make(3, 3, true), 4);
    }

    private static void makeIsEmpty() {
        Due.sentence("2: A new node, empty, a directory or a file");
        SessionTables x = new SessionTables(64);
        x.make(0, 1, false);
        x.write(1, 0, 5);
        x.write(1, 1, 6);
        x.close();
        x.remove(0, 1);
        Due.is("make", x.make(0, 1, true), 1);
        Due.is("kind(0, 1)", x.kind(0, 1), 1);
        Due.is("items(0, 1)", x.items(0, 1), 0);
        Due.is("item(0, 1, 0)", x.item(0, 1, 0), BAD);
        x.remove(0, 1);
        Due.is("make", x.make(0, 1, false), 1);
        Due.is("kind(0, 1)", x.kind(0, 1), 2);
        Due.is("block(0, 1, 0)", x.block(0, 1, 0), BAD);
        Due.is("write of block 1", x.write(1, 1, 7), BAD);
    }

    private static void makeChangesBoth() {
        Due.sentence("2: That node and dir are changed");
        SessionTables x = new SessionTables(64);
        x.make(0, 1, true);
        x.close();
        Due.is("changed()", x.changed(), 0);
        x.make(1, 2, false);
        Due.is("changed(): nodes 1 and 2", x.changed(), 2);
        Due.is("close()", x.close(), 3);
        Due.is("first entry's node", x.word(3, 3), 1);
        Due.is("second entry's node", x.word(4, 3), 2);
    }

    private static void makeNoDirectory() {
        Due.sentence("2: BAD if dir is no directory that is there");
        SessionTables x = new SessionTables(64);
        x.make(0, 1, false);
        x.make(0, 2, true);
        x.make(0, 3, true);
        x.remove(0, 3);
        Due.is("make in a file", x.make(1, 5, true), BAD);
        Due.is("make in a directory that went", x.make(3, 5, true), BAD);
        Due.is("make in node 7", x.make(7, 5, true), BAD);
        for (int dir : NO_NODES) {
            Due.is("make in " + dir, x.make(dir, 5, true), BAD);
        }
        Due.is("changed()", x.changed(), 3);
        Due.is("make in a directory", x.make(2, 5, true), 3);
    }

    private static void makeNames() {
        Due.sentence("2: BAD if name not 0 .. 99");
        SessionTables x = new SessionTables(64);
        for (int name : NO_NAMES) {
            Due.is("make with name " + name, x.make(0, name, false), BAD);
        }
        Due.is("make with name 0", x.make(0, 0, false), 1);
        Due.is("make with name 99", x.make(0, 99, false), 2);
        Due.is("find(0, 0, 0)", x.find(0, 0, 0), 1);
        Due.is("find(0, 0, 99)", x.find(0, 0, 99), 2);
    }

    private static void makeTaken() {
        Due.sentence("2: TAKEN if dir has an item of the name");
        SessionTables x = new SessionTables(64);
        for (int node = 1; node < 7; node++) {
            x.make(0, 10 * node, node % 2 == 0);
        }
        for (int node = 1; node < 7; node++) {
            Due.is("make of " + 10 * node, x.make(0, 10 * node, node % 2 == 1), TAKEN);
        }
        Due.is("items(0, 0)", x.items(0, 0), 6);
    }

    private static void makeMany() {
        Due.sentence("2: MANY if all 8 nodes are there");
        SessionTables x = new SessionTables(64);
        for (int node = 1; node < 8; node++) {
            Due.is("make", x.make(node - 1, 1, true), node);
        }
        for (int node = 0; node < 8; node++) {
            Due.is("make in " + node, x.make(node, 2, false), MANY);
        }
        Due.is("remove", x.remove(6, 1), 7);
        Due.is("make", x.make(0, 2, false), 7);
        Due.is("make", x.make(0, 3, false), MANY);
    }

    private static void makeFull() {
        Due.sentence("2: FULL");
        SessionTables x = new SessionTables(16);
        x.make(0, 1, false);
        for (int place = 0; place < 12; place++) {
            Due.is("write", x.write(1, 0, 1), place);
        }
        Due.is("make, 4 left and 3 would be changed", x.make(0, 2, true), 2);
        Due.is("make, 4 left and 4 would be changed", x.make(0, 3, true), FULL);
        Due.is("make elsewhere", x.make(2, 3, true), FULL);
        Due.is("close()", x.close(), 4);
        Due.is("make, 0 left", x.make(0, 3, true), FULL);
    }

    private static void writeBlocksInTurn() {
        Due.sentence("3: A data sector with the value is written, and is block k of the file from now on");
        SessionTables x = new SessionTables(64);
        x.make(0, 1, false);
        for (int k = 0; k < 10; k++) {
            Due.is("write", x.write(1, k, 100 + k), k);
            Due.is("items(0, 1)", x.items(0, 1), k + 1);
            Due.is("block(0, 1, " + k + ")", x.block(0, 1, k), 100 + k);
        }
    }

    private static void writeInTheStead() {
        Due.sentence("3: in the stead of the one that was block k, if there was one");
        SessionTables x = new SessionTables(64);
        x.make(0, 1, false);
        for (int k = 0; k < 10; k++) {
            x.write(1, k, 100 + k);
        }
        for (int k : new int[] {0, 5, 9}) {
            x.write(1, k, 200 + k);
            Due.is("items(0, 1)", x.items(0, 1), 10);
        }
        for (int k = 0; k < 10; k++) {
            Due.is("block(0, 1, " + k + ")", x.block(0, 1, k), (k == 0 || k == 5 || k == 9 ? 200 : 100) + k);
            Due.is("the first sector of block " + k, x.word(k, 4), 100 + k);
        }
    }

    private static void writeChangesFile() {
        Due.sentence("3: the file is changed");
        SessionTables x = new SessionTables(64);
        x.make(0, 1, true);
        x.make(1, 2, false);
        x.close();
        x.write(2, 0, 0);
        Due.is("changed()", x.changed(), 1);
        Due.is("close()", x.close(), 2);
        Due.is("the entry's node", x.word(5, 3), 2);
        x.write(2, 0, 0);
        Due.is("changed(), the same value again", x.changed(), 1);
    }

    private static void writeAnswersPlace() {
        Due.sentence("3: Answers its place");
        SessionTables x = new SessionTables(64);
        x.make(0, 1, false);
        Due.is("write", x.write(1, 0, 1), 0);
        x.close();
        Due.is("write behind a close", x.write(1, 0, 1), 4);
        x.crash();
        Due.is("write behind a crash", x.write(1, 0, 1), 5);
        x.arm(0);
        x.write(1, 0, 1);
        Due.is("write behind a torn sector", x.write(1, 0, 1), 7);
    }

    private static void writeNoFile() {
        Due.sentence("3: BAD if there is no such file");
        SessionTables x = new SessionTables(64);
        x.make(0, 1, false);
        x.make(0, 2, true);
        x.make(0, 3, false);
        x.remove(0, 3);
        Due.is("write in the root", x.write(0, 0, 1), BAD);
        Due.is("write in a directory", x.write(2, 0, 1), BAD);
        Due.is("write in a file that went", x.write(3, 0, 1), BAD);
        Due.is("write in node 7", x.write(7, 0, 1), BAD);
        for (int file : NO_NODES) {
            Due.is("write in " + file, x.write(file, 0, 1), BAD);
        }
        Due.is("left()", x.left(), 64);
    }

    private static void writeValues() {
        Due.sentence("3: BAD if the value is not 0 .. 65535");
        SessionTables x = new SessionTables(64);
        x.make(0, 1, false);
        for (int value : new int[] {Integer.MIN_VALUE, -65536, -1, 65536, 131071, Integer.MAX_VALUE}) {
            Due.is("write of " + value, x.write(1, 0, value), BAD);
        }
        Due.is("write of 0", x.write(1, 0, 0), 0);
        Due.is("block(0, 1, 0)", x.block(0, 1, 0), 0);
        Due.is("write of 65535", x.write(1, 0, 65535), 1);
        Due.is("block(0, 1, 0)", x.block(0, 1, 0), 65535);
        Due.is("write of 32768", x.write(1, 0, 32768), 2);
        Due.is("block(0, 1, 0)", x.block(0, 1, 0), 32768);
    }

    private static void writeBlockNumbers() {
        Due.sentence("3: BAD if k is less than 0, more than the number of the file's blocks");
        SessionTables x = new SessionTables(64);
        x.make(0, 1, false);
        for (int count = 0; count < 10; count++) {
            for (int k : new int[] {Integer.MIN_VALUE, -1, count + 1, 65536, Integer.MAX_VALUE}) {
                Due.is("write of block " + k + " of " + count, x.write(1, k, 1), BAD);
            }
            Due.is("write of block " + count, x.write(1, count, 1), count);
        }
    }

    private static void writeTenBlocks() {
        Due.sentence("3: BAD if k is more than 9");
        SessionTables x = new SessionTables(64);
        x.make(0, 1, false);
        for (int k = 0; k < 10; k++) {
            x.write(1, k, k);
        }
        Due.is("write of block 10, not more than the 10 blocks", x.write(1, 10, 1), BAD);
        Due.is("write of block 11", x.write(1, 11, 1), BAD);
        Due.is("left()", x.left(), 54);
        Due.is("write of block 9", x.write(1, 9, 1), 10);
        Due.is("items(0, 1)", x.items(0, 1), 10);
    }

    private static void writeFull() {
        Due.sentence("3: FULL");
        SessionTables x = new SessionTables(16);
        x.make(0, 1, false);
        for (int place = 0; place < 13; place++) {
            Due.is("write", x.write(1, 0, place), place);
        }
        Due.is("write, 3 left and 2 changed", x.write(1, 0, 99), FULL);
        Due.is("block(0, 1, 0)", x.block(0, 1, 0), 12);
        Due.is("left()", x.left(), 3);
        Due.is("close()", x.close(), 3);
        Due.is("write, 0 left", x.write(1, 0, 99), FULL);
    }

    private static void removeMovesUp() {
        Due.sentence("4: The item of the name leaves directory dir (items behind it move up)");
        for (int gone = 1; gone < 8; gone++) {
            SessionTables x = new SessionTables(64);
            for (int node = 1; node < 8; node++) {
                x.make(0, node, false);
            }
            Due.is("remove", x.remove(0, gone), gone);
            Due.is("items(0, 0)", x.items(0, 0), 6);
            for (int i = 0; i < 6; i++) {
                Due.is("item(0, 0, " + i + ") without " + gone, x.item(0, 0, i), 17 * (i + 1 < gone ? i + 1 : i + 2));
            }
            Due.is("item(0, 0, 6)", x.item(0, 0, 6), BAD);
            Due.is("find of the one that left", x.find(0, 0, gone), BAD);
        }
    }

    private static void removeFreesTheNode() {
        Due.sentence("4: its node is no longer there. Answers the node");
        SessionTables x = new SessionTables(64);
        x.make(0, 5, true);
        x.make(0, 6, false);
        x.write(2, 0, 1);
        x.close();
        Due.is("remove of a file with blocks", x.remove(0, 6), 2);
        Due.is("kind(0, 2)", x.kind(0, 2), BAD);
        Due.is("items(0, 2)", x.items(0, 2), BAD);
        Due.is("block(0, 2, 0)", x.block(0, 2, 0), BAD);
        Due.is("write", x.write(2, 0, 1), BAD);
        Due.is("remove of an empty directory", x.remove(0, 5), 1);
        Due.is("make in it", x.make(1, 1, true), BAD);
        Due.is("find in it", x.find(0, 1, 1), BAD);
        Due.is("the earlier tree has it", x.block(1, 2, 0), 1);
        x.close();
        Due.sector(x, 6, 3, 2, 6);
    }

    private static void removeChangesDirectory() {
        Due.sentence("4: dir is changed");
        SessionTables x = new SessionTables(64);
        x.make(0, 1, true);
        x.make(1, 2, false);
        x.close();
        x.remove(1, 2);
        Due.is("changed()", x.changed(), 1);
        Due.is("close()", x.close(), 2);
        Due.sector(x, 4, 2, 1, 1, 0);
    }

    private static void removeNoDirectory() {
        Due.sentence("4: BAD if dir is no directory that is there");
        SessionTables x = new SessionTables(64);
        x.make(0, 1, false);
        x.make(0, 2, true);
        x.remove(0, 2);
        Due.is("remove in a file", x.remove(1, 1), BAD);
        Due.is("remove in a directory that went", x.remove(2, 1), BAD);
        for (int dir : NO_NODES) {
            Due.is("remove in " + dir, x.remove(dir, 1), BAD);
        }
        Due.is("kind(0, 1)", x.kind(0, 1), 2);
    }

    private static void removeNoItem() {
        Due.sentence("4: BAD if dir has no such item");
        SessionTables x = new SessionTables(64);
        Due.is("remove in the empty root", x.remove(0, 0), BAD);
        x.make(0, 1, true);
        x.make(1, 0, false);
        x.make(1, 99, false);
        Due.is("remove of an item of another directory", x.remove(0, 99), BAD);
        Due.is("remove of the directory's own name in it", x.remove(1, 1), BAD);
        for (int name : NO_NAMES) {
            Due.is("remove of " + name, x.remove(0, name), BAD);
        }
        Due.is("remove of 99", x.remove(1, 99), 3);
        Due.is("remove of 99 again", x.remove(1, 99), BAD);
        Due.is("remove of 0", x.remove(1, 0), 2);
        Due.is("remove of 0 again", x.remove(1, 0), BAD);
    }

    private static void removeBusy() {
        Due.sentence("4: BUSY if the node is a directory with items");
        SessionTables x = new SessionTables(64);
        x.make(0, 1, true);
        x.make(1, 2, true);
        x.make(0, 3, false);
        x.write(3, 0, 1);
        Due.is("remove with one item", x.remove(0, 1), BUSY);
        Due.is("kind(0, 1)", x.kind(0, 1), 1);
        Due.is("remove of the item", x.remove(1, 2), 2);
        Due.is("remove without items", x.remove(0, 1), 1);
        Due.is("remove of a file with blocks", x.remove(0, 3), 3);
    }

    private static void removeFull() {
        Due.sentence("4: FULL");
        SessionTables x = Due.twoWithLeft(1);
        Due.is("remove of the file, 1 left", x.remove(0, 2), FULL);
        Due.is("remove of the directory, 1 left", x.remove(0, 1), FULL);
        Due.is("items(0, 0)", x.items(0, 0), 2);
        SessionTables y = Due.twoWithLeft(2);
        Due.is("remove of the file, 2 left", y.remove(0, 2), 2);
        Due.is("remove of the directory, 2 left", y.remove(0, 1), 1);
        Due.is("close()", y.close(), 2);
    }

    private static void moveBecomesLast() {
        Due.sentence("5: The item leaves directory dir and its node becomes the last item of directory to with the name as");
        SessionTables x = new SessionTables(64);
        x.make(0, 1, true);
        x.make(1, 10, false);
        x.make(1, 11, false);
        x.make(1, 12, false);
        x.make(0, 5, false);
        Due.is("move of the first", x.move(1, 10, 0, 0), 2);
        Due.is("item(0, 1, 0)", x.item(0, 1, 0), 11 * 16 + 3);
        Due.is("item(0, 1, 1)", x.item(0, 1, 1), 12 * 16 + 4);
        Due.is("items(0, 1)", x.items(0, 1), 2);
        Due.is("item(0, 0, 2)", x.item(0, 0, 2), 2);
        Due.is("move of the last", x.move(1, 12, 0, 99), 4);
        Due.is("item(0, 0, 3)", x.item(0, 0, 3), 99 * 16 + 4);
        Due.is("item(0, 1, 1)", x.item(0, 1, 1), BAD);
        Due.is("move of the only one", x.move(1, 11, 0, 11), 3);
        Due.is("items(0, 1)", x.items(0, 1), 0);
        Due.is("items(0, 0)", x.items(0, 0), 5);
        Due.is("move into the empty one", x.move(0, 0, 1, 7), 2);
        Due.is("item(0, 1, 0)", x.item(0, 1, 0), 7 * 16 + 2);
    }

    private static void moveInOneDirectory() {
        Due.sentence("5: .. becomes the last item of directory to (which is dir)");
        SessionTables x = new SessionTables(64);
        for (int node = 1; node < 8; node++) {
            x.make(0, node, false);
        }
        x.close();
        Due.is("move of the first", x.move(0, 1, 0, 50), 1);
        Due.is("move of one between", x.move(0, 4, 0, 51), 4);
        Due.is("move of the last", x.move(0, 51, 0, 52), 4);
        int[] want = {34, 51, 85, 102, 119, 50 * 16 + 1, 52 * 16 + 4};
        for (int i = 0; i < 7; i++) {
            Due.is("item(0, 0, " + i + ")", x.item(0, 0, i), want[i]);
        }
        Due.is("items(0, 0)", x.items(0, 0), 7);
        Due.is("changed()", x.changed(), 1);
    }

    private static void moveChangesBoth() {
        Due.sentence("5: both directories are changed");
        SessionTables x = new SessionTables(64);
        x.make(0, 1, true);
        x.make(0, 2, true);
        x.make(1, 3, true);
        x.close();
        x.move(1, 3, 2, 3);
        Due.is("changed()", x.changed(), 2);
        Due.is("close()", x.close(), 3);
        Due.sector(x, 5, 2, 1, 1, 0);
        Due.sector(x, 6, 2, 2, 1, 1, 51);
        Due.sector(x, 7, 3, 2, 1, 6, 7, 4);
    }

    private static void moveKeepsTheNode() {
        Due.sentence("5: Answers the node (which keeps its items and blocks)");
        SessionTables x = new SessionTables(64);
        x.make(0, 1, true);
        x.make(1, 2, false);
        x.write(2, 0, 77);
        x.make(0, 3, true);
        Due.is("move of a directory", x.move(0, 1, 3, 9), 1);
        Due.is("find(0, 1, 2)", x.find(0, 1, 2), 2);
        Due.is("move of a file", x.move(1, 2, 0, 2), 2);
        Due.is("block(0, 2, 0)", x.block(0, 2, 0), 77);
    }

    private static void moveNoDirectory() {
        Due.sentence("5: BAD if dir or to is no directory that is there");
        SessionTables x = new SessionTables(64);
        x.make(0, 1, true);
        x.make(0, 2, false);
        x.make(0, 3, true);
        x.remove(0, 3);
        Due.is("move from a file", x.move(2, 1, 0, 9), BAD);
        Due.is("move from what went", x.move(3, 1, 0, 9), BAD);
        Due.is("move to a file", x.move(0, 1, 2, 9), BAD);
        Due.is("move of a file to itself", x.move(0, 2, 2, 9), BAD);
        Due.is("move to what went", x.move(0, 1, 3, 9), BAD);
        for (int node : NO_NODES) {
            Due.is("move from " + node, x.move(node, 2, 1, 9), BAD);
            Due.is("move to " + node, x.move(0, 2, node, 9), BAD);
        }
        Due.is("items(0, 0)", x.items(0, 0), 2);
    }

    private static void moveNoItem() {
        Due.sentence("5: BAD if dir has no such item");
        SessionTables x = new SessionTables(64);
        Due.is("move in the empty root", x.move(0, 0, 0, 1), BAD);
        x.make(0, 1, true);
        x.make(1, 2, false);
        Due.is("move of another directory's item", x.move(0, 2, 1, 9), BAD);
        for (int name : NO_NAMES) {
            Due.is("move of " + name, x.move(0, name, 1, 9), BAD);
        }
        x.move(1, 2, 0, 3);
        Due.is("move of what has left", x.move(1, 2, 0, 9), BAD);
    }

    private static void moveNames() {
        Due.sentence("5: BAD if as is not 0 .. 99");
        SessionTables x = new SessionTables(64);
        x.make(0, 1, false);
        for (int as : NO_NAMES) {
            Due.is("move as " + as, x.move(0, 1, 0, as), BAD);
        }
        Due.is("move as 0", x.move(0, 1, 0, 0), 1);
        Due.is("move as 99", x.move(0, 0, 0, 99), 1);
        Due.is("item(0, 0, 0)", x.item(0, 0, 0), 99 * 16 + 1);
    }

    private static void moveTaken() {
        Due.sentence("5: TAKEN if to has an item with the name as");
        SessionTables x = new SessionTables(64);
        x.make(0, 1, true);
        x.make(0, 2, false);
        x.make(1, 3, false);
        Due.is("move to another directory's name", x.move(0, 2, 1, 3), TAKEN);
        Due.is("move to another name of the same", x.move(0, 2, 0, 1), TAKEN);
        Due.is("move to a name that only dir has", x.move(0, 2, 1, 2), 2);
    }

    private static void moveTakenByItself() {
        Due.sentence("5: TAKEN .. (also if it is the same item)");
        SessionTables x = new SessionTables(64);
        x.make(0, 1, true);
        x.make(0, 2, false);
        x.close();
        Due.is("move of the directory to itself", x.move(0, 1, 0, 1), TAKEN);
        Due.is("move of the file to itself", x.move(0, 2, 0, 2), TAKEN);
        Due.is("changed()", x.changed(), 0);
    }

    /** The directories 1 .. 7, each in the one before it, the first in the root. */
    private static SessionTables chain() {
        SessionTables x = new SessionTables(64);
        for (int node = 1; node < 8; node++) {
            x.make(node - 1, node, true);
        }
        return x;
    }

    private static void moveIntoItself() {
        Due.sentence("5: LOOP if the node is to");
        SessionTables x = chain();
        for (int node = 1; node < 8; node++) {
            Due.is("move of " + node + " into itself", x.move(node - 1, node, node, 50), LOOP);
        }
    }

    private static void moveBelowItself() {
        Due.sentence("5: LOOP if to lies below it at any depth");
        SessionTables x = chain();
        for (int node = 1; node < 8; node++) {
            for (int to = node + 1; to < 8; to++) {
                Due.is("move of " + node + " below itself to " + to, x.move(node - 1, node, to, 50), LOOP);
            }
        }
        Due.is("changed()", x.changed(), 8);
    }

    private static void moveIsNoLoop() {
        Due.sentence("5: LOOP .. (not if to lies above it or beside it)");
        for (int node = 2; node < 8; node++) {
            for (int to = 0; to < node; to++) {
                Due.is("move of " + node + " up to " + to, chain().move(node - 1, node, to, 50), node);
            }
        }
        SessionTables x = new SessionTables(64);
        x.make(0, 1, true);
        x.make(0, 2, true);
        x.make(1, 3, true);
        Due.is("move beside", x.move(0, 2, 3, 2), 2);
        Due.is("what is below now", x.move(0, 1, 2, 9), LOOP);
        Due.is("move back", x.move(3, 2, 0, 2), 2);
        Due.is("no longer below", x.move(0, 1, 2, 9), 1);
    }

    /** The node that moved was the last item where it left, and so is easily seen there still. */
    private static void moveLoopAfterMoves() {
        Due.sentence("5: LOOP if to lies below it (where it lies now, not where it lay)");
        SessionTables x = new SessionTables(64);
        x.make(0, 1, true);
        x.make(0, 2, true);
        x.make(1, 3, true);
        Due.is("move from 1 to 2", x.move(1, 3, 2, 3), 3);
        Due.is("move of 1 into what has left it", x.move(0, 1, 3, 1), 1);
        Due.is("move of 2 below itself", x.move(0, 2, 1, 2), LOOP);
        SessionTables y = new SessionTables(64);
        y.make(0, 1, true);
        y.make(0, 2, true);
        Due.is("move of the root's last", y.move(0, 2, 1, 2), 2);
        Due.is("move of 1 into what has come to it", y.move(0, 1, 2, 1), LOOP);
        y.close();
        Due.is("move up again", y.move(1, 2, 0, 2), 2);
        y.crash();
        Due.is("move of 1 below itself, read back", y.move(0, 1, 2, 1), LOOP);
        y.remove(1, 2);
        Due.is("make with the number that went", y.make(0, 9, true), 2);
        Due.is("move of 1 into the new one", y.move(0, 1, 2, 1), 1);
    }

    private static void moveFull() {
        Due.sentence("5: FULL");
        SessionTables x = Due.twoWithLeft(2);
        Due.is("move over two directories, 2 left", x.move(0, 2, 1, 2), FULL);
        Due.is("find(0, 0, 2)", x.find(0, 0, 2), 2);
        Due.is("items(0, 1)", x.items(0, 1), 0);
        Due.is("changed()", x.changed(), 0);
        Due.is("move in one directory, 2 left", x.move(0, 2, 0, 3), 2);
        Due.is("close()", x.close(), 2);
        Due.is("move in one directory, 0 left", x.move(0, 3, 0, 2), FULL);
    }
}
