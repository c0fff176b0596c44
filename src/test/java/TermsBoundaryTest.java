/** The limit of calls and the section "Terms": a test for each sentence that names a boundary. */
public final class TermsBoundaryTest {
    private static final int BAD = SessionTables.BAD;
    private static final int TAKEN = SessionTables.TAKEN;
    private static final int MANY = SessionTables.MANY;
    private static final int FULL = SessionTables.FULL;
    private static final int TORN = SessionTables.TORN;
    private static final int BUSY = SessionTables.BUSY;
    private static final int LOOP = SessionTables.LOOP;
    private static final int SPOILED = SessionTables.SPOILED;

    public static void main(String[] args) {
        lastPromisedCallChanges();
        lastPromisedCallCloses();
        earlierTables();
        firstAndLastPlace();
        unwrittenWords();
        dataSector();
        entryWithoutItems();
        entryOfFullFile();
        entryOfFullDirectory();
        entryAfterItemsLeft();
        entryOfNumberUsedAgain();
        tableWords();
        fullTable();
        checkValues();
        checkOfEverySector();
        goodSector();
        validTableNeedsItself();
        validTableNeedsEachEntry();
        validTableNeedsNoOther();
        countedByPlace();
        mostTables();
        eachOfManyTables();
        nodeNumbers();
        rootStays();
        changedUntilGone();
        changedUntilClosed();
        changedUntilReadBack();
        emptyTree();
        readBackTakesNewestValid();
        readBackForgets();
        readBackWithoutTable();
        stopCountsAllSectors();
        tornData();
        tornEntry();
        tornTable();
        tornWithoutTable();
        tornOnlyOnce();
        refusedInRoomyTree();
        refusedLooks();
        refusedWithAllNodes();
        refusedOnFullMedium();
        makeRefusalOrder();
        writeRefusalOrder();
        removeRefusalOrder();
        moveRefusalOrder();
        fullAtMake();
        fullAtMakeInChangedDirectory();
        fullAtWrite();
        fullAtRemove();
        fullAtRemoveOfChanged();
        fullAtMove();
        fullAtClose();
        Due.end();
    }

    private static void lastPromisedCallChanges() {
        Due.sentence("An object is used for at most 512 calls: the 512th still removes");
        SessionTables x = new SessionTables(16);
        for (int call = 1; call <= 512; call++) {
            int got = call % 2 == 1 ? x.make(0, call % 100, false) : x.remove(0, (call - 1) % 100);
            Due.is("call " + call, got, 1);
        }
    }

    private static void lastPromisedCallCloses() {
        Due.sentence("An object is used for at most 512 calls: the 512th still closes");
        SessionTables x = new SessionTables(128);
        Due.is("make", x.make(0, 1, false), 1);
        for (int call = 2; call <= 511; call++) {
            if (call <= 120) {
                Due.is("write as call " + call, x.write(1, 0, call), call - 2);
            } else {
                Due.is("block as call " + call, x.block(0, 1, 0), 120);
            }
        }
        Due.is("close as call 512", x.close(), 3);
    }

    private static void earlierTables() {
        Due.sentence("After a crash the last good table gives the tree of the last close; earlier tables still"
            + " give the trees of earlier ones");
        SessionTables x = new SessionTables(64);
        x.make(0, 1, false);
        for (int i = 1; i <= 4; i++) {
            x.write(1, 0, 100 * i);
            x.close();
        }
        x.write(1, 0, 999);
        Due.is("crash()", x.crash(), 4);
        Due.is("block(0, 1, 0)", x.block(0, 1, 0), 400);
        for (int at = 1; at <= 4; at++) {
            Due.is("block(" + at + ", 1, 0)", x.block(at, 1, 0), 100 * at);
        }
    }

    private static void firstAndLastPlace() {
        Due.sentence("each at the PLACE that is the number of sectors written before");
        for (int sectors : new int[] {16, 128}) {
            SessionTables x = new SessionTables(sectors);
            x.make(0, 1, false);
            for (int place = 0; place < sectors - 3; place++) {
                Due.is("write", x.write(1, place % 10, place), place);
                Due.is("word 2", x.word(place, 2), place);
            }
            Due.is("close()", x.close(), 3);
            for (int place = sectors - 3; place < sectors; place++) {
                Due.is("word 0", x.word(place, 0), place == sectors - 1 ? 3 : 2);
                Due.is("word 2", x.word(place, 2), place);
            }
            Due.is("left()", x.left(), 0);
        }
    }

    private static void unwrittenWords() {
        Due.sentence("words of sectors that are not written are 0");
        SessionTables x = new SessionTables(16);
        Due.unwritten(x, 0);
        Due.unwritten(x, 15);
        x.make(0, 1, false);
        Due.is("write", x.write(1, 0, 65535), 0);
        Due.is("write of no file", x.write(0, 0, 65535), BAD);
        Due.unwritten(x, 1);
        x.close();
        Due.is("word of the last written", x.word(3, 0), 3);
        Due.unwritten(x, 4);
        SessionTables y = Due.fileWithLeft(2);
        Due.is("write without room", y.write(1, 0, 65535), FULL);
        Due.unwritten(y, 14);
    }

    private static void dataSector() {
        Due.sentence("DATA 4: the value; word 3: the number of the file's node");
        SessionTables x = new SessionTables(32);
        for (int node = 1; node < 8; node++) {
            x.make(0, node, false);
        }
        x.write(7, 0, 65535);
        x.write(1, 0, 0);
        Due.sector(x, 0, 1, 7, 65535);
        Due.sector(x, 1, 1, 1, 0);
    }

    private static void entryWithoutItems() {
        Due.sentence("ENTRY 4: 1 for a directory, 2 for a file; 5: how many items n (none)");
        SessionTables x = new SessionTables(16);
        x.make(0, 1, true);
        x.make(1, 2, false);
        x.move(1, 2, 0, 2);
        x.remove(0, 1);
        x.remove(0, 2);
        x.make(0, 5, true);
        x.make(0, 6, false);
        Due.is("close()", x.close(), 4);
        Due.sector(x, 0, 2, 0, 1, 2, 5 * 16 + 1, 6 * 16 + 2);
        Due.sector(x, 1, 2, 1, 1, 0);
        Due.sector(x, 2, 2, 2, 2, 0);
    }

    private static void entryOfFullFile() {
        Due.sentence("6 .. 5 + n: the items in order, of a file the places of its blocks' data (n is 10)");
        SessionTables x = new SessionTables(32);
        x.make(0, 1, false);
        for (int k = 0; k < 10; k++) {
            x.write(1, k, k);
        }
        x.write(1, 0, 50);
        x.write(1, 9, 59);
        Due.is("close()", x.close(), 3);
        Due.sector(x, 13, 2, 1, 2, 10, 10, 1, 2, 3, 4, 5, 6, 7, 8, 11);
    }

    private static void entryOfFullDirectory() {
        Due.sentence("6 .. 5 + n: the items in order, of a directory name * 16 + node (n is 7, names 0 and 99)");
        SessionTables x = new SessionTables(32);
        int[] names = {0, 98, 1, 97, 2, 96, 99};
        for (int i = 0; i < 7; i++) {
            Due.is("make", x.make(0, names[i], false), i + 1);
        }
        Due.is("close()", x.close(), 9);
        Due.sector(x, 0, 2, 0, 1, 7, 1, 98 * 16 + 2, 16 + 3, 97 * 16 + 4, 32 + 5, 96 * 16 + 6, 99 * 16 + 7);
    }

    private static void entryAfterItemsLeft() {
        Due.sentence("words 4 .. 15, those not said being 0: behind the items that are left");
        SessionTables x = new SessionTables(32);
        x.make(0, 1, false);
        x.make(0, 2, true);
        x.make(0, 3, false);
        x.close();
        x.remove(0, 1);
        x.move(0, 3, 2, 9);
        Due.is("close()", x.close(), 3);
        Due.sector(x, 5, 2, 0, 1, 1, 2 * 16 + 2);
        Due.sector(x, 6, 2, 2, 1, 1, 9 * 16 + 3);
        Due.sector(x, 7, 3, 2, 6, 0, 7, 4);
    }

    private static void entryOfNumberUsedAgain() {
        Due.sentence("words 4 .. 15, those not said being 0: of a number that was a file with blocks");
        SessionTables x = new SessionTables(32);
        x.make(0, 1, false);
        for (int k = 0; k < 4; k++) {
            x.write(1, k, 7);
        }
        x.close();
        x.remove(0, 1);
        Due.is("make", x.make(0, 2, false), 1);
        Due.is("items(0, 1)", x.items(0, 1), 0);
        x.write(1, 0, 8);
        Due.is("close()", x.close(), 3);
        Due.sector(x, 9, 2, 1, 2, 1, 7);
    }

    private static void tableWords() {
        Due.sentence("TABLE 4 .. 11: 1 more than the place of the node's entry, 0 if there is no such node");
        SessionTables x = new SessionTables(32);
        x.close();
        Due.sector(x, 1, 3, 1, 1);
        x.make(0, 1, false);
        x.make(0, 2, false);
        x.close();
        Due.sector(x, 5, 3, 2, 3, 4, 5);
        x.remove(0, 1);
        x.close();
        Due.sector(x, 7, 3, 3, 7, 0, 5);
    }

    private static void fullTable() {
        Due.sentence("TABLE 4 .. 11: for the nodes 0 .. 7 (all eight are there)");
        SessionTables x = new SessionTables(32);
        for (int node = 1; node < 8; node++) {
            x.make(node - 1, node, true);
        }
        Due.is("close()", x.close(), 9);
        Due.sector(x, 8, 3, 1, 1, 2, 3, 4, 5, 6, 7, 8);
        x.move(6, 7, 0, 7);
        Due.is("close()", x.close(), 3);
        Due.sector(x, 11, 3, 2, 10, 2, 3, 4, 5, 6, 11, 8);
    }

    /** The values were worked out outside of Java, by another program for this check. */
    private static void checkValues() {
        Due.sentence("The check is c in the end");
        SessionTables x = new SessionTables(16);
        x.make(0, 99, false);
        x.write(1, 0, 65535);
        x.write(1, 1, 0);
        x.write(1, 1, 256);
        x.close();
        int[] want = {36475, 2360, 8676, 10203, 64359, 8876};
        for (int place = 0; place < want.length; place++) {
            Due.is("word(" + place + ", 1)", x.word(place, 1), want[place]);
        }
        SessionTables y = new SessionTables(16);
        y.make(0, 1, false);
        for (int k = 0; k < 10; k++) {
            y.write(1, k, 65535);
        }
        y.close();
        Due.is("word(11, 1)", y.word(11, 1), 60496);
    }

    private static void checkOfEverySector() {
        Due.sentence("2 c if c is less than 32768, otherwise (2 c - 65536) xor 4129");
        for (int start = 0; start < 65536; start += 1311) {
            SessionTables x = new SessionTables(16);
            x.make(0, 1, false);
            for (int i = 0; i < 10; i++) {
                x.write(1, i, Math.min(65535, start + 131 * i));
            }
            x.close();
            for (int place = 0; place < 13; place++) {
                Due.is("word(" + place + ", 1) from " + start, x.word(place, 1), Due.check(x, place));
            }
        }
    }

    private static void goodSector() {
        Due.sentence("A written sector is GOOD if its word 1 is its check");
        SessionTables x = new SessionTables(16);
        x.make(0, 1, false);
        x.write(1, 0, 0);
        Due.is("block of a good sector", x.block(0, 1, 0), 0);
        x.spoil(0);
        Due.is("block of a spoiled sector", x.block(0, 1, 0), SPOILED);
        x.spoil(0);
        Due.is("block of a sector that is good again", x.block(0, 1, 0), 0);
    }

    private static void validTableNeedsItself() {
        Due.sentence("A TABLE is VALID if it is a good sector");
        SessionTables x = new SessionTables(16);
        Due.is("tables()", x.tables(), 0);
        x.close();
        Due.is("tables()", x.tables(), 1);
        x.spoil(1);
        Due.is("tables()", x.tables(), 0);
        x.spoil(1);
        Due.is("tables()", x.tables(), 1);
    }

    private static void validTableNeedsEachEntry() {
        Due.sentence("A TABLE is VALID if all entries that it names are good sectors");
        SessionTables x = new SessionTables(32);
        for (int node = 1; node < 8; node++) {
            x.make(0, node, node % 2 == 0);
        }
        x.close();
        for (int entry = 0; entry < 8; entry++) {
            x.spoil(entry);
            Due.is("tables() without the entry at " + entry, x.tables(), 0);
            x.spoil(entry);
            Due.is("tables() with the entry at " + entry, x.tables(), 1);
        }
        x.spoil(0);
        x.spoil(7);
        x.spoil(0);
        Due.is("tables() with one of two mended", x.tables(), 0);
        x.spoil(7);
        Due.is("tables() with both mended", x.tables(), 1);
    }

    private static void validTableNeedsNoOther() {
        Due.sentence("A TABLE is VALID if it and all entries that it names are good sectors (and no other need be)");
        SessionTables x = new SessionTables(32);
        x.make(0, 1, false);
        x.write(1, 0, 5);
        x.close();
        x.write(1, 0, 6);
        x.close();
        x.spoil(0);
        x.spoil(4);
        Due.is("tables() with data spoiled", x.tables(), 2);
        x.spoil(2);
        Due.is("tables() with the file's first entry spoiled", x.tables(), 1);
        Due.is("items(1, 1)", x.items(1, 1), 1);
        Due.is("crash()", x.crash(), 2);
        x.spoil(2);
        x.spoil(5);
        Due.is("tables() with the file's second entry spoiled", x.tables(), 1);
        Due.is("crash()", x.crash(), 1);
        x.spoil(5);
        x.spoil(3);
        Due.is("tables() with the first table spoiled", x.tables(), 1);
        Due.is("crash()", x.crash(), 2);
    }

    private static void countedByPlace() {
        Due.sentence("Valid tables are counted 1, 2, .. by place");
        SessionTables x = new SessionTables(32);
        x.make(0, 1, false);
        x.close();
        x.write(1, 0, 11);
        x.arm(1);
        Due.is("close() whose table is torn", x.close(), TORN);
        x.write(1, 0, 22);
        x.close();
        Due.is("tables()", x.tables(), 2);
        Due.is("block(2, 1, 0)", x.block(2, 1, 0), 22);
        x.spoil(5);
        Due.is("tables() with the torn table mended", x.tables(), 3);
        Due.is("items(1, 1)", x.items(1, 1), 0);
        Due.is("block(2, 1, 0)", x.block(2, 1, 0), 11);
        Due.is("block(3, 1, 0)", x.block(3, 1, 0), 22);
        Due.is("number of the mended table", x.word(5, 3), 2);
        Due.is("number of the table behind it", x.word(8, 3), 2);
        Due.is("crash()", x.crash(), 2);
        Due.is("block(0, 1, 0)", x.block(0, 1, 0), 22);
    }

    /** Each table is spoiled so that the next close has the empty tree to write; in the end all are mended. */
    private static void mostTables() {
        Due.sentence("Valid tables are counted 1, 2, .. by place (64 of them, the most that 128 sectors hold)");
        SessionTables x = new SessionTables(128);
        for (int table = 1; table <= 64; table++) {
            Due.is("close() " + table, x.close(), 2);
            x.spoil(2 * table - 1);
            Due.is("crash() " + table, x.crash(), 0);
        }
        Due.is("left()", x.left(), 0);
        Due.is("close() on the full medium", x.close(), FULL);
        for (int table = 1; table <= 64; table++) {
            x.spoil(2 * table - 1);
        }
        Due.is("tables()", x.tables(), 64);
        Due.is("kind(64, 0)", x.kind(64, 0), 1);
        Due.is("kind(65, 0)", x.kind(65, 0), BAD);
        Due.is("crash(): each was the first", x.crash(), 1);
    }

    private static void eachOfManyTables() {
        Due.sentence("earlier tables still give the trees of earlier ones (63 trees)");
        SessionTables x = new SessionTables(128);
        x.make(0, 1, false);
        x.close();
        for (int table = 2; table <= 63; table++) {
            x.move(0, table - 1, 0, table);
            Due.is("close() " + table, x.close(), 2);
        }
        for (int at = 1; at <= 63; at++) {
            Due.is("item(" + at + ", 0, 0)", x.item(at, 0, 0), at * 16 + 1);
        }
        Due.is("item(64, 0, 0)", x.item(64, 0, 0), BAD);
    }

    private static void nodeNumbers() {
        Due.sentence("THE TREE has nodes 0 .. 7");
        SessionTables x = new SessionTables(32);
        for (int node = 1; node < 8; node++) {
            Due.is("make", x.make(0, node, node == 7), node);
        }
        Due.is("kind(0, 7)", x.kind(0, 7), 1);
        Due.is("kind(0, 8)", x.kind(0, 8), BAD);
        Due.is("kind(0, -1)", x.kind(0, -1), BAD);
    }

    private static void rootStays() {
        Due.sentence("node 0 is the ROOT, a directory");
        SessionTables x = new SessionTables(32);
        Due.is("kind(0, 0)", x.kind(0, 0), 1);
        Due.is("remove(0, 0): the root is no item", x.remove(0, 0), BAD);
        x.make(0, 0, true);
        Due.is("move(1, 0, 0, 1): the root is no item", x.move(1, 0, 0, 1), BAD);
        Due.is("remove(0, 0) of an item named 0", x.remove(0, 0), 1);
        Due.is("kind(0, 0)", x.kind(0, 0), 1);
        Due.is("crash()", x.crash(), 0);
        Due.is("kind(0, 0)", x.kind(0, 0), 1);
    }

    private static void changedUntilGone() {
        Due.sentence("A node is CHANGED until it is not there any more");
        SessionTables x = new SessionTables(32);
        x.make(0, 1, false);
        x.make(0, 2, false);
        x.close();
        x.write(1, 0, 1);
        x.write(2, 0, 1);
        Due.is("changed()", x.changed(), 2);
        x.remove(0, 1);
        Due.is("changed(): the root and file 2", x.changed(), 2);
        Due.is("make", x.make(0, 3, false), 1);
        Due.is("changed(): the new node 1 too", x.changed(), 3);
        x.remove(0, 3);
        Due.is("changed()", x.changed(), 2);
        Due.is("close()", x.close(), 3);
    }

    private static void changedUntilClosed() {
        Due.sentence("A node is CHANGED until the tree is closed");
        SessionTables x = new SessionTables(64);
        for (int node = 1; node < 8; node++) {
            x.make(0, node, false);
        }
        Due.is("changed()", x.changed(), 8);
        Due.is("close()", x.close(), 9);
        Due.is("changed()", x.changed(), 0);
        Due.is("close()", x.close(), 0);
        x.write(7, 0, 0);
        Due.is("changed()", x.changed(), 1);
        x.write(7, 0, 0);
        Due.is("changed()", x.changed(), 1);
    }

    private static void changedUntilReadBack() {
        Due.sentence("A node is CHANGED until it is read back");
        SessionTables x = new SessionTables(64);
        x.make(0, 1, false);
        x.close();
        x.write(1, 0, 0);
        x.make(0, 2, true);
        Due.is("changed()", x.changed(), 3);
        Due.is("crash()", x.crash(), 1);
        Due.is("changed()", x.changed(), 0);
        Due.is("close()", x.close(), 0);
        x.make(0, 2, true);
        x.arm(0);
        Due.is("close()", x.close(), TORN);
        Due.is("changed()", x.changed(), 0);
    }

    private static void emptyTree() {
        Due.sentence("THE EMPTY TREE is the root without items, which is changed");
        SessionTables x = new SessionTables(16);
        Due.is("items(0, 0)", x.items(0, 0), 0);
        Due.is("item(0, 0, 0)", x.item(0, 0, 0), BAD);
        Due.is("changed()", x.changed(), 1);
        for (int node = 1; node < 8; node++) {
            Due.is("kind", x.kind(0, node), BAD);
        }
        Due.is("close()", x.close(), 2);
        Due.sector(x, 0, 2, 0, 1, 0);
    }

    private static void readBackTakesNewestValid() {
        Due.sentence("it becomes what the newest valid table and the entries that it names say");
        SessionTables x = new SessionTables(64);
        x.make(0, 1, false);
        x.close();
        x.write(1, 0, 20);
        x.close();
        x.write(1, 0, 30);
        x.close();
        x.spoil(5);
        x.spoil(8);
        Due.is("crash() to table 1", x.crash(), 1);
        Due.is("items(0, 1)", x.items(0, 1), 0);
        x.write(1, 0, 40);
        x.close();
        x.spoil(8);
        Due.is("the mended table's number", x.word(8, 3), 3);
        Due.is("crash() to the one that was written last", x.crash(), 2);
        Due.is("block(0, 1, 0)", x.block(0, 1, 0), 40);
        x.spoil(11);
        Due.is("crash() to table 3", x.crash(), 3);
        Due.is("block(0, 1, 0)", x.block(0, 1, 0), 30);
    }

    private static void readBackForgets() {
        Due.sentence("READING BACK makes the tree, and forgets what it was");
        SessionTables x = new SessionTables(64);
        x.make(0, 1, true);
        x.make(0, 2, false);
        x.make(0, 3, false);
        x.write(3, 0, 33);
        x.close();
        x.write(2, 0, 1);
        x.write(3, 0, 2);
        x.write(3, 1, 2);
        x.move(0, 2, 1, 9);
        x.make(1, 5, true);
        x.remove(0, 3);
        Due.is("crash()", x.crash(), 1);
        Due.is("items(0, 0)", x.items(0, 0), 3);
        for (int i = 0; i < 3; i++) {
            Due.is("item(0, 0, " + i + ")", x.item(0, 0, i), 17 * (i + 1));
        }
        Due.is("items(0, 1)", x.items(0, 1), 0);
        Due.is("items(0, 2)", x.items(0, 2), 0);
        Due.is("items(0, 3)", x.items(0, 3), 1);
        Due.is("block(0, 3, 0)", x.block(0, 3, 0), 33);
        Due.is("kind(0, 4)", x.kind(0, 4), BAD);
        Due.is("make takes the number again", x.make(0, 7, false), 4);
        x.close();
        Due.sector(x, 10, 2, 4, 2, 0);
        Due.sector(x, 11, 3, 2, 10, 3, 4, 5, 11);
    }

    private static void readBackWithoutTable() {
        Due.sentence("without a valid table it becomes the empty tree");
        SessionTables x = new SessionTables(32);
        x.make(0, 1, false);
        x.write(1, 0, 5);
        x.close();
        x.spoil(3);
        Due.is("crash()", x.crash(), 0);
        Due.is("changed()", x.changed(), 1);
        Due.is("items(0, 0)", x.items(0, 0), 0);
        Due.is("kind(0, 1)", x.kind(0, 1), BAD);
        Due.is("make", x.make(0, 2, false), 1);
        Due.is("items(0, 1)", x.items(0, 1), 0);
        Due.is("close()", x.close(), 3);
        Due.sector(x, 6, 3, 1, 5, 6);
    }

    private static void stopCountsAllSectors() {
        Due.sentence("When a stop was armed with k and k sectors have been written since, the next sector is TORN");
        for (int k = 0; k <= 7; k++) {
            SessionTables x = new SessionTables(64);
            x.make(0, 1, false);
            x.close();
            x.arm(k);
            Due.is("write 1 after " + k, x.write(1, 0, 1), k == 0 ? TORN : 3);
            Due.is("write 2 after " + k, x.write(1, 0, 2), k == 1 ? TORN : 4);
            boolean hasClosed = k != 1;
            Due.is("close() after " + k, x.close(), k == 2 || k == 3 ? TORN : hasClosed ? 2 : 0);
            int place = 64 - x.left();
            Due.is("sectors after " + k, place, k == 1 ? 5 : k == 2 ? 6 : 7);
            Due.is("write 3 after " + k, x.write(1, 0, 3), k == 4 ? TORN : place);
            Due.is("write 4 after " + k, x.write(1, 0, 4), k == 5 ? TORN : place + 1);
        }
    }

    private static void tornData() {
        Due.sentence("it is written, but its word 1 is its check xor 1 (data)");
        SessionTables x = new SessionTables(32);
        x.make(0, 1, false);
        x.write(1, 0, 5);
        x.close();
        x.arm(0);
        Due.is("write", x.write(1, 0, 65535), TORN);
        Due.sector(x, 4, 1, 1, 65535);
        Due.is("word(4, 1)", x.word(4, 1), Due.check(x, 4) ^ 1);
        Due.is("left()", x.left(), 27);
        Due.is("block(0, 1, 0)", x.block(0, 1, 0), 5);
        Due.is("changed()", x.changed(), 0);
    }

    private static void tornEntry() {
        Due.sentence("the call that writes it ends with the answer TORN (at an entry)");
        SessionTables x = new SessionTables(32);
        x.make(0, 1, false);
        x.close();
        x.make(0, 2, false);
        x.write(1, 0, 9);
        x.arm(1);
        Due.is("close()", x.close(), TORN);
        Due.is("left(): nothing is written behind it", x.left(), 26);
        Due.is("word(4, 1)", x.word(4, 1), Due.check(x, 4));
        Due.sector(x, 5, 2, 1, 2, 1, 3);
        Due.is("word(5, 1)", x.word(5, 1), Due.check(x, 5) ^ 1);
        Due.unwritten(x, 6);
        Due.is("kind(0, 2)", x.kind(0, 2), BAD);
        Due.is("tables()", x.tables(), 1);
    }

    private static void tornTable() {
        Due.sentence("the tree is read back (the newest table is the torn one)");
        SessionTables x = new SessionTables(32);
        x.make(0, 1, false);
        x.close();
        x.write(1, 0, 9);
        x.arm(1);
        Due.is("close()", x.close(), TORN);
        Due.sector(x, 5, 3, 2, 1, 5);
        Due.is("word(5, 1)", x.word(5, 1), Due.check(x, 5) ^ 1);
        Due.is("items(0, 1)", x.items(0, 1), 0);
        Due.is("tables()", x.tables(), 1);
        Due.is("changed()", x.changed(), 0);
    }

    private static void tornWithoutTable() {
        Due.sentence("the tree is read back (there is no valid table)");
        SessionTables x = new SessionTables(32);
        x.make(0, 1, false);
        x.arm(0);
        Due.is("write", x.write(1, 0, 1), TORN);
        Due.is("kind(0, 1)", x.kind(0, 1), BAD);
        Due.is("changed()", x.changed(), 1);
        x.make(0, 1, false);
        x.arm(2);
        Due.is("close() whose table is torn", x.close(), TORN);
        Due.is("kind(0, 1)", x.kind(0, 1), BAD);
        Due.is("changed()", x.changed(), 1);
        Due.is("close()", x.close(), 2);
        Due.is("number", x.word(5, 3), 1);
    }

    private static void tornOnlyOnce() {
        Due.sentence("and nothing is armed any more");
        SessionTables x = new SessionTables(128);
        x.make(0, 1, false);
        x.close();
        x.arm(0);
        Due.is("write", x.write(1, 0, 1), TORN);
        for (int place = 4; place < 126; place++) {
            Due.is("write behind it", x.write(1, 0, 1), place);
        }
        Due.is("close()", x.close(), 2);
    }

    /** Room and nodes enough, one sector written since the table, and a stop that tears the second to come. */
    private static SessionTables roomy() {
        SessionTables x = new SessionTables(40);
        x.make(0, 1, true);
        x.make(1, 2, true);
        x.make(0, 3, false);
        x.write(3, 0, 10);
        x.close();
        x.write(3, 1, 20);
        x.spoil(0);
        x.arm(1);
        return x;
    }

    private static void refusedInRoomyTree() {
        Due.sentence("A call that is refused changes nothing");
        Due.Setup s = TermsBoundaryTest::roomy;
        Due.refused("make in a file", s, x -> x.make(3, 0, false), BAD);
        Due.refused("make in node 4", s, x -> x.make(4, 0, false), BAD);
        Due.refused("make with name 100", s, x -> x.make(0, 100, false), BAD);
        Due.refused("make with a name that is there", s, x -> x.make(0, 1, true), TAKEN);
        Due.refused("write in a directory", s, x -> x.write(1, 0, 1), BAD);
        Due.refused("write of 65536", s, x -> x.write(3, 0, 65536), BAD);
        Due.refused("write of -1", s, x -> x.write(3, 0, -1), BAD);
        Due.refused("write of block 3", s, x -> x.write(3, 3, 1), BAD);
        Due.refused("write of block -1", s, x -> x.write(3, -1, 1), BAD);
        Due.refused("remove in a file", s, x -> x.remove(3, 0), BAD);
        Due.refused("remove of no item", s, x -> x.remove(0, 9), BAD);
        Due.refused("remove of a directory with items", s, x -> x.remove(0, 1), BUSY);
        Due.refused("move of no item", s, x -> x.move(0, 9, 1, 5), BAD);
        Due.refused("move to a file", s, x -> x.move(0, 1, 3, 5), BAD);
        Due.refused("move as 100", s, x -> x.move(0, 3, 1, 100), BAD);
        Due.refused("move to a name that is there", s, x -> x.move(0, 3, 1, 2), TAKEN);
        Due.refused("move to itself", s, x -> x.move(0, 3, 0, 3), TAKEN);
        Due.refused("move into itself", s, x -> x.move(0, 1, 1, 5), LOOP);
        Due.refused("move below itself", s, x -> x.move(0, 1, 2, 5), LOOP);
        Due.refused("arm(-1)", s, x -> x.arm(-1) ? 1 : 0, 0);
        Due.refused("arm(1001)", s, x -> x.arm(1001) ? 1 : 0, 0);
        Due.refused("spoil(-1)", s, x -> x.spoil(-1) ? 1 : 0, 0);
        Due.refused("spoil of the next sector", s, x -> x.spoil(7) ? 1 : 0, 0);
    }

    private static void refusedLooks() {
        Due.sentence("A call that is refused changes nothing (a look, refused or not)");
        Due.Setup s = TermsBoundaryTest::roomy;
        Due.refused("kind at 2", s, x -> x.kind(2, 0), BAD);
        Due.refused("items of node 8", s, x -> x.items(0, 8), BAD);
        Due.refused("find in a file", s, x -> x.find(0, 3, 0), BAD);
        Due.refused("item 2", s, x -> x.item(1, 0, 2), BAD);
        Due.refused("block 2", s, x -> x.block(0, 3, 2), BAD);
        Due.refused("block of spoiled data", s, x -> x.block(0, 3, 0), SPOILED);
        Due.refused("word 16", s, x -> x.word(0, 16), BAD);
        Due.refused("find at 1", s, x -> x.find(1, 0, 3), 3);
        Due.refused("items at 1", s, x -> x.items(1, 3), 1);
        Due.refused("tables", s, x -> x.tables(), 1);
    }

    private static SessionTables allNodes() {
        SessionTables x = new SessionTables(40);
        for (int node = 1; node < 8; node++) {
            x.make(0, node, node == 5);
        }
        x.close();
        x.write(3, 0, 4);
        x.arm(1);
        return x;
    }

    private static void refusedWithAllNodes() {
        Due.sentence("A call that is refused changes nothing (MANY)");
        Due.refused("make in the root", TermsBoundaryTest::allNodes, x -> x.make(0, 50, false), MANY);
        Due.refused("make in node 5", TermsBoundaryTest::allNodes, x -> x.make(5, 50, true), MANY);
    }

    private static SessionTables tight(int left) {
        SessionTables x = new SessionTables(16);
        x.make(0, 1, true);
        x.make(0, 2, false);
        x.make(0, 3, false);
        for (int i = 0; i < 11 - left; i++) {
            x.write(3, 0, i);
        }
        x.close();
        x.arm(1);
        return x;
    }

    private static void refusedOnFullMedium() {
        Due.sentence("A call that is refused changes nothing (FULL)");
        Due.refused("make, 2 left", () -> tight(2), x -> x.make(0, 50, true), FULL);
        Due.refused("write, 2 left", () -> tight(2), x -> x.write(3, 1, 7), FULL);
        Due.refused("move, 2 left", () -> tight(2), x -> x.move(0, 2, 1, 9), FULL);
        Due.refused("remove, 1 left", () -> tight(1), x -> x.remove(0, 2), FULL);
        Due.refused("remove, none left", () -> tight(0), x -> x.remove(0, 2), FULL);
        Due.Setup lost = () -> {
            SessionTables x = tight(1);
            x.spoil(14);
            x.crash();
            x.arm(0);
            return x;
        };
        Due.refused("close, 1 left", lost, x -> x.close(), FULL);
    }

    private static void makeRefusalOrder() {
        Due.sentence("Of several refusals that would hold the one that is named first at the call is answered: make");
        SessionTables x = new SessionTables(16);
        for (int node = 1; node < 8; node++) {
            x.make(0, node, node == 7);
        }
        Due.is("BAD before MANY: the name", x.make(0, 100, false), BAD);
        Due.is("BAD before MANY: a file", x.make(1, 50, false), BAD);
        Due.is("TAKEN before MANY", x.make(0, 7, false), TAKEN);
        x.close();
        for (int i = 0; i < 4; i++) {
            x.write(1, 0, i);
        }
        x.close();
        Due.is("left()", x.left(), 1);
        Due.is("BAD before FULL: the name", x.make(0, -1, false), BAD);
        Due.is("BAD before FULL: a file", x.make(6, 50, false), BAD);
        Due.is("TAKEN before MANY and FULL", x.make(0, 7, false), TAKEN);
        Due.is("MANY before FULL", x.make(7, 50, false), MANY);
        SessionTables y = Due.fileWithLeft(2);
        Due.is("TAKEN before FULL", y.make(0, 1, false), TAKEN);
        Due.is("FULL", y.make(0, 2, false), FULL);
    }

    private static void writeRefusalOrder() {
        Due.sentence("Of several refusals that would hold the one that is named first at the call is answered: write");
        SessionTables x = Due.fileWithLeft(0);
        Due.is("BAD before FULL: a directory", x.write(0, 0, 1), BAD);
        Due.is("BAD before FULL: no node", x.write(2, 0, 1), BAD);
        Due.is("BAD before FULL: the value", x.write(1, 0, 65536), BAD);
        Due.is("BAD before FULL: the block", x.write(1, 2, 1), BAD);
        Due.is("FULL", x.write(1, 1, 1), FULL);
    }

    private static void removeRefusalOrder() {
        Due.sentence("Of several refusals that would hold the one that is named first at the call is answered: remove");
        SessionTables x = new SessionTables(16);
        x.make(0, 1, true);
        x.make(1, 2, false);
        for (int i = 0; i < 12; i++) {
            x.write(2, 0, i);
        }
        x.close();
        Due.is("left()", x.left(), 0);
        Due.is("BAD before FULL: a file", x.remove(2, 1), BAD);
        Due.is("BAD before FULL: no item", x.remove(0, 2), BAD);
        Due.is("BUSY before FULL", x.remove(0, 1), BUSY);
        Due.is("FULL", x.remove(1, 2), FULL);
    }

    private static void moveRefusalOrder() {
        Due.sentence("Of several refusals that would hold the one that is named first at the call is answered: move");
        SessionTables x = new SessionTables(16);
        x.make(0, 1, true);
        x.make(1, 2, true);
        x.make(0, 3, false);
        for (int i = 0; i < 11; i++) {
            x.write(3, 0, i);
        }
        x.close();
        Due.is("left()", x.left(), 0);
        Due.is("BAD before TAKEN: no directory", x.move(3, 1, 0, 1), BAD);
        Due.is("BAD before TAKEN: no item", x.move(0, 9, 0, 1), BAD);
        Due.is("BAD before LOOP: as", x.move(0, 1, 1, 100), BAD);
        Due.is("BAD before FULL: to", x.move(0, 1, 3, 5), BAD);
        Due.is("BAD before FULL: no item", x.move(0, 9, 0, 5), BAD);
        Due.is("TAKEN before LOOP", x.move(0, 1, 1, 2), TAKEN);
        Due.is("TAKEN before FULL", x.move(0, 3, 0, 1), TAKEN);
        Due.is("LOOP before FULL: itself", x.move(0, 1, 1, 9), LOOP);
        Due.is("LOOP before FULL: below", x.move(0, 1, 2, 9), LOOP);
        Due.is("FULL", x.move(0, 3, 2, 9), FULL);
    }

    private static void fullAtMake() {
        Due.sentence("FULL is answered where after the call fewer sectors would be unwritten than 1 more than the"
            + " number of nodes that would be changed then: make");
        Due.is("make, 2 left", Due.fileWithLeft(2).make(0, 2, false), FULL);
        SessionTables x = Due.fileWithLeft(3);
        Due.is("make, 3 left", x.make(0, 2, false), 2);
        Due.is("make, 3 left and 2 changed", x.make(0, 3, false), FULL);
        Due.is("close()", x.close(), 3);
        Due.is("left()", x.left(), 0);
    }

    private static void fullAtMakeInChangedDirectory() {
        Due.sentence("FULL is answered ..: make, where the directory is changed before");
        SessionTables x = Due.fileWithLeft(4);
        Due.is("make", x.make(0, 2, false), 2);
        Due.is("make, 4 left and 2 changed", x.make(0, 3, false), 3);
        Due.is("make, 4 left and 3 changed", x.make(0, 4, false), FULL);
        Due.is("close()", x.close(), 4);
        SessionTables y = Due.twoWithLeft(4);
        Due.is("make", y.make(0, 3, false), 3);
        Due.is("make in another directory, 4 left and 2 changed", y.make(1, 4, false), FULL);
        Due.is("make in the same", y.make(0, 4, false), 4);
    }

    private static void fullAtWrite() {
        Due.sentence("FULL is answered ..: write");
        Due.is("write, 2 left", Due.fileWithLeft(2).write(1, 0, 9), FULL);
        SessionTables x = Due.fileWithLeft(3);
        Due.is("write, 3 left", x.write(1, 0, 9), 13);
        Due.is("write, 2 left, changed before", x.write(1, 0, 9), FULL);
        Due.is("close()", x.close(), 2);
        SessionTables y = Due.fileWithLeft(4);
        y.write(1, 0, 9);
        Due.is("write, 3 left, changed before", y.write(1, 0, 9), 13);
        SessionTables z = Due.twoWithLeft(3);
        z.move(0, 2, 0, 3);
        Due.is("write, 3 left, the root changed before", z.write(2, 0, 9), FULL);
    }

    private static void fullAtRemove() {
        Due.sentence("FULL is answered ..: remove");
        Due.is("remove, 0 left", Due.fileWithLeft(0).remove(0, 1), FULL);
        Due.is("remove, 1 left", Due.fileWithLeft(1).remove(0, 1), FULL);
        SessionTables x = Due.fileWithLeft(2);
        Due.is("remove, 2 left", x.remove(0, 1), 1);
        Due.is("close()", x.close(), 2);
        SessionTables y = Due.twoWithLeft(2);
        Due.is("remove, 2 left", y.remove(0, 1), 1);
        Due.is("remove, 2 left and the root changed", y.remove(0, 2), 2);
        Due.is("close()", y.close(), 2);
    }

    private static void fullAtRemoveOfChanged() {
        Due.sentence("the number of nodes that would be changed then: the removed node is not among them");
        SessionTables x = Due.fileWithLeft(3);
        x.write(1, 0, 1);
        Due.is("left()", x.left(), 2);
        Due.is("remove of the changed file, 2 left", x.remove(0, 1), 1);
        Due.is("changed()", x.changed(), 1);
        Due.is("close()", x.close(), 2);
        SessionTables y = Due.twoWithLeft(3);
        y.write(2, 0, 1);
        Due.is("remove of the other, 2 left", y.remove(0, 1), FULL);
        Due.is("remove of the changed file, 2 left", y.remove(0, 2), 2);
    }

    private static void fullAtMove() {
        Due.sentence("FULL is answered ..: move, in one directory and over two");
        Due.is("move in one, 1 left", Due.twoWithLeft(1).move(0, 2, 0, 3), FULL);
        SessionTables one = Due.twoWithLeft(2);
        Due.is("move in one, 2 left", one.move(0, 2, 0, 3), 2);
        Due.is("move over two, 2 left, one changed", one.move(0, 3, 1, 3), FULL);
        Due.is("close()", one.close(), 2);
        Due.is("move over two, 2 left", Due.twoWithLeft(2).move(0, 2, 1, 3), FULL);
        SessionTables two = Due.twoWithLeft(3);
        Due.is("move over two, 3 left", two.move(0, 2, 1, 3), 2);
        Due.is("move back, 3 left, both changed", two.move(1, 3, 0, 3), 2);
        Due.is("close()", two.close(), 3);
    }

    private static void fullAtClose() {
        Due.sentence("by close(), where fewer are unwritten than it would write");
        for (int left = 0; left < 4; left++) {
            SessionTables x = Due.fileWithLeft(left);
            x.spoil(15 - left);
            Due.is("crash()", x.crash(), 0);
            Due.is("close() of the empty tree, " + left + " left", x.close(), left < 2 ? FULL : 2);
            Due.is("changed()", x.changed(), left < 2 ? 1 : 0);
            Due.is("left()", x.left(), left < 2 ? left : left - 2);
        }
        SessionTables none = Due.fileWithLeft(0);
        Due.is("close() of nothing changed, 0 left", none.close(), 0);
    }
}
