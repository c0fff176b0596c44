/** Promises 6 to 9: a test for each sentence that names a boundary. */
public final class MediumBoundaryTest {
    private static final int BAD = SessionTables.BAD;
    private static final int FULL = SessionTables.FULL;
    private static final int TORN = SessionTables.TORN;
    private static final int SPOILED = SessionTables.SPOILED;

    public static void main(String[] args) {
        closeOfNothing();
        closeOfNothingLeavesTheStop();
        closeWritesInOrder();
        closeWritesOnlyTheChanged();
        closeFirstNumber();
        closeNextNumber();
        closeNumberAfterSpoiledTable();
        closeNumberAfterSpoiledEntry();
        closeNumberWithoutValidTable();
        closeNumberIsOfTheNewest();
        closeOverSpoiledEntry();
        closeChangesNoMore();
        closeAnswersTheCount();
        closeTornAtEachSector();
        closeFull();
        closeExactlyFits();
        armAnswers();
        armCountsFromTheCall();
        armWithZero();
        armTakesThePlace();
        armRefusedLeavesTheStop();
        armBeyondTheMedium();
        armCountsNoRefusedCall();
        crashReadsBack();
        crashDisarms();
        crashAnswersTheNumber();
        crashWithoutTable();
        crashOfUnchangedTree();
        crashWritesNothing();
        spoilFlipsWordOne();
        spoilLeavesTheTree();
        spoilMendsTornTable();
        spoilMendsTornEntry();
        spoilMendsTornData();
        spoilTwice();
        spoilOfNoSector();
        Due.end();
    }

    private static SessionTables closedFile() {
        SessionTables x = new SessionTables(64);
        x.make(0, 1, false);
        x.close();
        return x;
    }

    private static void closeOfNothing() {
        Due.sentence("6: If no node is changed: 0");
        SessionTables x = closedFile();
        Due.is("close() behind a close", x.close(), 0);
        Due.is("left()", x.left(), 61);
        Due.is("tables()", x.tables(), 1);
        x.write(1, 0, 1);
        x.crash();
        Due.is("close() behind a crash", x.close(), 0);
        Due.is("left()", x.left(), 60);
        x.spoil(2);
        Due.is("close() with the table spoiled", x.close(), 0);
        Due.is("left()", x.left(), 60);
        Due.is("close() on a full medium", Due.fileWithLeft(0).close(), 0);
    }

    private static void closeOfNothingLeavesTheStop() {
        Due.sentence("6: If no node is changed: 0 (an armed stop stays)");
        SessionTables x = closedFile();
        x.arm(0);
        Due.is("close()", x.close(), 0);
        Due.is("write", x.write(1, 0, 1), TORN);
    }

    private static void closeWritesInOrder() {
        Due.sentence("6: the entries of the changed nodes are written in the order of their numbers, then a table");
        SessionTables x = new SessionTables(64);
        for (int node = 1; node < 8; node++) {
            x.make(0, 8 - node, false);
        }
        x.close();
        x.write(7, 0, 7);
        x.write(1, 0, 1);
        x.write(4, 0, 4);
        x.move(0, 1, 0, 50);
        Due.is("close()", x.close(), 5);
        int[] nodes = {0, 1, 4, 7};
        for (int i = 0; i < 4; i++) {
            Due.is("word(" + (12 + i) + ", 0)", x.word(12 + i, 0), 2);
            Due.is("word(" + (12 + i) + ", 3)", x.word(12 + i, 3), nodes[i]);
        }
        Due.sector(x, 16, 3, 2, 13, 14, 3, 4, 15, 6, 7, 16);
    }

    private static void closeWritesOnlyTheChanged() {
        Due.sentence("6: the entries of the changed nodes .. then a table of all nodes");
        SessionTables x = new SessionTables(64);
        x.make(0, 1, true);
        x.make(1, 2, false);
        x.close();
        x.write(2, 0, 9);
        Due.is("close()", x.close(), 2);
        Due.sector(x, 5, 2, 2, 2, 1, 4);
        Due.sector(x, 6, 3, 2, 1, 2, 6);
        Due.is("find(2, 1, 2)", x.find(2, 1, 2), 2);
        x.crash();
        x.move(1, 2, 0, 3);
        Due.is("close() behind a crash", x.close(), 3);
        Due.sector(x, 9, 3, 3, 8, 9, 6);
    }

    private static void closeFirstNumber() {
        Due.sentence("6: its number is 1 if there is none (before it is written)");
        SessionTables x = new SessionTables(16);
        Due.is("close()", x.close(), 2);
        Due.is("word(1, 3)", x.word(1, 3), 1);
    }

    private static void closeNextNumber() {
        Due.sentence("6: its number is 1 more than that of the newest valid table");
        SessionTables x = closedFile();
        for (int number = 2; number <= 15; number++) {
            x.write(1, 0, number);
            x.close();
            Due.is("number", x.word(63 - x.left(), 3), number);
        }
    }

    private static void closeNumberAfterSpoiledTable() {
        Due.sentence("6: 1 more than that of the newest valid table (a newer one is spoiled)");
        SessionTables x = closedFile();
        x.write(1, 0, 2);
        x.close();
        x.spoil(5);
        x.write(1, 0, 3);
        x.close();
        Due.is("word(8, 3)", x.word(8, 3), 2);
        x.spoil(8);
        x.spoil(5);
        x.write(1, 0, 4);
        x.close();
        Due.is("word(11, 3)", x.word(11, 3), 3);
    }

    private static void closeNumberAfterSpoiledEntry() {
        Due.sentence("6: 1 more than that of the newest valid table (an entry of a newer one is spoiled)");
        SessionTables x = closedFile();
        x.write(1, 0, 2);
        x.close();
        x.spoil(4);
        x.write(1, 0, 3);
        x.close();
        Due.is("word(8, 3)", x.word(8, 3), 2);
        Due.is("tables()", x.tables(), 2);
    }

    private static void closeNumberWithoutValidTable() {
        Due.sentence("6: 1 if there is none (the ones that are there are not valid)");
        SessionTables x = closedFile();
        x.write(1, 0, 2);
        x.close();
        x.spoil(2);
        x.spoil(5);
        x.write(1, 0, 3);
        x.close();
        Due.is("word(8, 3)", x.word(8, 3), 1);
        Due.is("tables()", x.tables(), 1);
        Due.is("crash()", x.crash(), 1);
        Due.is("block(0, 1, 0)", x.block(0, 1, 0), 3);
    }

    private static void closeNumberIsOfTheNewest() {
        Due.sentence("6: 1 more than that of the newest valid table (not of the highest, nor how many there are)");
        SessionTables x = closedFile();
        for (int i = 0; i < 3; i++) {
            x.write(1, 0, i);
            x.close();
        }
        x.spoil(5);
        x.spoil(8);
        x.spoil(11);
        x.write(1, 0, 8);
        x.close();
        Due.is("word(14, 3)", x.word(14, 3), 2);
        x.spoil(5);
        x.spoil(8);
        x.spoil(11);
        Due.is("tables()", x.tables(), 5);
        Due.is("crash()", x.crash(), 2);
        x.write(1, 0, 9);
        x.close();
        Due.is("word(17, 3)", x.word(17, 3), 3);
    }

    private static void closeOverSpoiledEntry() {
        Due.sentence("6: then a table of all nodes (one that is not changed has a spoiled entry)");
        SessionTables x = closedFile();
        x.write(1, 0, 2);
        x.spoil(0);
        Due.is("close()", x.close(), 2);
        Due.sector(x, 5, 3, 1, 1, 5);
        Due.is("tables()", x.tables(), 0);
        x.spoil(0);
        Due.is("tables() with the entry mended", x.tables(), 2);
        Due.is("crash()", x.crash(), 1);
        Due.is("block(0, 1, 0)", x.block(0, 1, 0), 2);
    }

    private static void closeChangesNoMore() {
        Due.sentence("6: No node is changed then");
        SessionTables x = closedFile();
        Due.is("changed()", x.changed(), 0);
        x.make(0, 2, true);
        x.close();
        Due.is("changed()", x.changed(), 0);
        Due.is("the tree stays", x.find(0, 0, 2), 2);
        Due.is("items(0, 0)", x.items(0, 0), 2);
    }

    private static void closeAnswersTheCount() {
        Due.sentence("6: Answers how many sectors were written");
        for (int nodes = 0; nodes < 8; nodes++) {
            SessionTables x = new SessionTables(16);
            for (int node = 1; node <= nodes; node++) {
                x.make(0, node, false);
            }
            Due.is("close() of " + nodes + " and the root", x.close(), nodes + 2);
            Due.is("left()", x.left(), 14 - nodes);
        }
    }

    private static void closeTornAtEachSector() {
        Due.sentence("6: TORN as said above");
        for (int k = 0; k <= 9; k++) {
            SessionTables x = new SessionTables(64);
            x.close();
            for (int node = 1; node < 8; node++) {
                x.make(0, node, false);
            }
            x.arm(k);
            boolean isTorn = k < 9;
            Due.is("close() with " + k, x.close(), isTorn ? TORN : 9);
            Due.is("left()", x.left(), isTorn ? 61 - k : 53);
            Due.is("changed()", x.changed(), 0);
            Due.is("items(0, 0)", x.items(0, 0), isTorn ? 0 : 7);
            Due.is("tables()", x.tables(), isTorn ? 1 : 2);
            Due.is("make", x.make(0, 9, false), isTorn ? 1 : SessionTables.MANY);
        }
    }

    private static void closeFull() {
        Due.sentence("6: FULL");
        SessionTables x = Due.fileWithLeft(1);
        x.spoil(14);
        x.crash();
        x.arm(0);
        Due.is("close()", x.close(), FULL);
        Due.is("left()", x.left(), 1);
        Due.is("changed()", x.changed(), 1);
        Due.unwritten(x, 15);
        x.spoil(14);
        Due.is("crash() with the table mended", x.crash(), 1);
        Due.is("close()", x.close(), 0);
    }

    private static void closeExactlyFits() {
        Due.sentence("6: FULL (not where as many are unwritten as it writes)");
        SessionTables x = Due.fileWithLeft(3);
        x.make(0, 2, true);
        Due.is("close()", x.close(), 3);
        Due.is("left()", x.left(), 0);
        Due.is("tables()", x.tables(), 2);
        Due.is("word(15, 0)", x.word(15, 0), 3);
    }

    private static void armAnswers() {
        Due.sentence("7: True; false if k is not 0 .. 1000");
        SessionTables x = new SessionTables(16);
        for (int k : new int[] {Integer.MIN_VALUE, -1000, -1, 1001, 65536, Integer.MAX_VALUE}) {
            Due.is("arm(" + k + ")", x.arm(k), false);
        }
        Due.is("close(): nothing is armed", x.close(), 2);
        for (int k : new int[] {0, 1, 16, 128, 999, 1000}) {
            Due.is("arm(" + k + ")", x.arm(k), true);
        }
    }

    private static void armCountsFromTheCall() {
        Due.sentence("7: Arms a stop with k (counted from this call on)");
        SessionTables x = closedFile();
        x.write(1, 0, 1);
        x.write(1, 0, 2);
        x.arm(2);
        Due.is("write", x.write(1, 0, 3), 5);
        Due.is("write", x.write(1, 0, 4), 6);
        Due.is("write", x.write(1, 0, 5), TORN);
        Due.is("left()", x.left(), 56);
    }

    private static void armWithZero() {
        Due.sentence("7: 0: the next sector");
        SessionTables x = new SessionTables(16);
        x.arm(0);
        Due.is("close() of a new object", x.close(), TORN);
        Due.is("left()", x.left(), 15);
        Due.is("word(0, 1)", x.word(0, 1), Due.check(x, 0) ^ 1);
    }

    private static void armTakesThePlace() {
        Due.sentence("7: in the place of one that was armed");
        SessionTables x = closedFile();
        x.arm(0);
        x.arm(1);
        Due.is("write: later than the first stop", x.write(1, 0, 1), 3);
        x.arm(1);
        Due.is("write: counted anew", x.write(1, 0, 1), 4);
        x.arm(0);
        Due.is("write: earlier than the first stop", x.write(1, 0, 1), TORN);
        Due.is("write: the first stop is gone", x.write(1, 0, 1), 6);
        x.arm(0);
        x.arm(1000);
        Due.is("write: 1000 is as good as none", x.write(1, 0, 1), 7);
    }

    private static void armRefusedLeavesTheStop() {
        Due.sentence("7: false if k is not 0 .. 1000 (the stop that was armed stays)");
        for (int k : new int[] {-1, 1001}) {
            SessionTables x = closedFile();
            x.arm(1);
            x.arm(k);
            Due.is("write", x.write(1, 0, 1), 3);
            x.arm(k);
            Due.is("write", x.write(1, 0, 1), TORN);
        }
    }

    private static void armBeyondTheMedium() {
        Due.sentence("7: Arms a stop with k (which is no less than the sectors that are left)");
        for (int k : new int[] {127, 128, 1000}) {
            SessionTables x = new SessionTables(128);
            x.make(0, 1, false);
            x.arm(k);
            for (int place = 0; place < 125; place++) {
                Due.is("write after " + k, x.write(1, 0, 1), place);
            }
            Due.is("close() after " + k, x.close(), k == 127 ? TORN : 3);
            Due.is("left() after " + k, x.left(), 0);
            Due.is("tables() after " + k, x.tables(), k == 127 ? 0 : 1);
        }
    }

    private static void armCountsNoRefusedCall() {
        Due.sentence("7: k sectors have been written since (refused calls write none)");
        SessionTables x = Due.fileWithLeft(3);
        x.arm(0);
        Due.is("write of no block", x.write(1, 5, 1), BAD);
        Due.is("make", x.make(0, 2, true), 2);
        Due.is("write without room", x.write(1, 0, 1), FULL);
        Due.is("close()", x.close(), TORN);
        Due.is("left()", x.left(), 2);
    }

    private static void crashReadsBack() {
        Due.sentence("8: The tree is read back");
        SessionTables x = closedFile();
        x.make(0, 2, true);
        x.move(0, 1, 2, 9);
        x.write(1, 0, 5);
        Due.is("crash()", x.crash(), 1);
        Due.is("item(0, 0, 0)", x.item(0, 0, 0), 17);
        Due.is("items(0, 0)", x.items(0, 0), 1);
        Due.is("items(0, 1)", x.items(0, 1), 0);
        Due.is("kind(0, 2)", x.kind(0, 2), BAD);
        Due.is("changed()", x.changed(), 0);
        Due.is("left(): what is written stays so", x.left(), 60);
    }

    private static void crashDisarms() {
        Due.sentence("8: nothing is armed any more");
        SessionTables x = closedFile();
        x.arm(0);
        x.crash();
        Due.is("write", x.write(1, 0, 1), 3);
        x.arm(1);
        Due.is("write", x.write(1, 0, 1), 4);
        x.crash();
        Due.is("write", x.write(1, 0, 1), 5);
        Due.is("close()", x.close(), 2);
    }

    private static void crashAnswersTheNumber() {
        Due.sentence("8: Answers the number of the newest valid table (its word 3)");
        SessionTables x = closedFile();
        Due.is("crash()", x.crash(), 1);
        x.write(1, 0, 2);
        x.close();
        x.write(1, 0, 3);
        x.close();
        Due.is("crash()", x.crash(), 3);
        x.spoil(2);
        Due.is("crash(): the number, not how many", x.crash(), 3);
        x.spoil(8);
        Due.is("crash(): of the one that is valid", x.crash(), 2);
        x.spoil(4);
        Due.is("crash(): the entry of table 2 is spoiled", x.crash(), 0);
        x.spoil(8);
        Due.is("crash(): table 3 does not name that entry", x.crash(), 3);
    }

    private static void crashWithoutTable() {
        Due.sentence("8: 0 if there is none");
        SessionTables x = new SessionTables(16);
        Due.is("crash() of a new object", x.crash(), 0);
        Due.is("changed()", x.changed(), 1);
        x.make(0, 1, false);
        x.write(1, 0, 1);
        Due.is("crash() with data alone", x.crash(), 0);
        Due.is("kind(0, 1)", x.kind(0, 1), BAD);
        x.close();
        x.spoil(2);
        Due.is("crash() with a spoiled table", x.crash(), 0);
        Due.is("changed()", x.changed(), 1);
    }

    private static void crashOfUnchangedTree() {
        Due.sentence("8: The tree is read back (another table may be the newest valid one by now)");
        SessionTables x = closedFile();
        x.write(1, 0, 2);
        x.close();
        x.spoil(5);
        Due.is("items(0, 1)", x.items(0, 1), 1);
        Due.is("crash()", x.crash(), 1);
        Due.is("items(0, 1)", x.items(0, 1), 0);
        x.spoil(5);
        Due.is("crash()", x.crash(), 2);
        Due.is("items(0, 1)", x.items(0, 1), 1);
    }

    private static void crashWritesNothing() {
        Due.sentence("8: The tree is read back (no sector is written)");
        SessionTables x = Due.fileWithLeft(0);
        Due.is("crash()", x.crash(), 1);
        Due.is("left()", x.left(), 0);
        SessionTables y = new SessionTables(16);
        y.crash();
        Due.is("left()", y.left(), 16);
        Due.unwritten(y, 0);
    }

    private static void spoilFlipsWordOne() {
        Due.sentence("9: Word 1 of a written sector becomes itself xor 1");
        SessionTables x = closedFile();
        x.write(1, 0, 65535);
        for (int place = 0; place < 4; place++) {
            int check = x.word(place, 1);
            Due.is("spoil(" + place + ")", x.spoil(place), true);
            Due.is("word 1", x.word(place, 1), check ^ 1);
            Due.is("the check of the other words", Due.check(x, place), check);
            Due.is("spoil(" + place + ") again", x.spoil(place), true);
            Due.is("word 1", x.word(place, 1), check);
        }
    }

    private static void spoilLeavesTheTree() {
        Due.sentence("9: the tree is not touched");
        SessionTables x = closedFile();
        x.make(0, 2, false);
        for (int place = 0; place < 3; place++) {
            x.spoil(place);
        }
        Due.is("items(0, 0)", x.items(0, 0), 2);
        Due.is("kind(0, 1)", x.kind(0, 1), 2);
        Due.is("changed()", x.changed(), 2);
        Due.is("tables()", x.tables(), 0);
        Due.is("left()", x.left(), 61);
    }

    private static void spoilMendsTornTable() {
        Due.sentence("9: so a sector that was not good may become it (a torn table, the first of all)");
        SessionTables x = new SessionTables(64);
        x.make(0, 1, false);
        x.arm(2);
        Due.is("close()", x.close(), TORN);
        Due.is("kind(0, 1)", x.kind(0, 1), BAD);
        Due.is("spoil(2)", x.spoil(2), true);
        Due.is("tables()", x.tables(), 1);
        Due.is("kind(1, 1)", x.kind(1, 1), 2);
        Due.is("kind(0, 1): the tree is not touched", x.kind(0, 1), BAD);
        Due.is("crash()", x.crash(), 1);
        Due.is("kind(0, 1)", x.kind(0, 1), 2);
    }

    private static void spoilMendsTornEntry() {
        Due.sentence("9: so a sector that was not good may become it (a torn entry, which no table names)");
        SessionTables x = closedFile();
        x.write(1, 0, 1);
        x.arm(0);
        Due.is("close()", x.close(), TORN);
        Due.is("spoil(4)", x.spoil(4), true);
        Due.is("word(4, 1)", x.word(4, 1), Due.check(x, 4));
        Due.is("tables()", x.tables(), 1);
        Due.is("crash()", x.crash(), 1);
        Due.is("items(0, 1)", x.items(0, 1), 0);
    }

    private static void spoilMendsTornData() {
        Due.sentence("9: so a sector that was not good may become it (torn data, which no file has)");
        SessionTables x = closedFile();
        x.arm(0);
        Due.is("write", x.write(1, 0, 1), TORN);
        Due.is("spoil(3)", x.spoil(3), true);
        Due.is("word(3, 1)", x.word(3, 1), Due.check(x, 3));
        Due.is("block(0, 1, 0)", x.block(0, 1, 0), BAD);
        Due.is("write", x.write(1, 0, 2), 4);
        Due.is("block(0, 1, 0)", x.block(0, 1, 0), 2);
    }

    private static void spoilTwice() {
        Due.sentence("9: becomes itself xor 1 (an odd number of times or an even one)");
        SessionTables x = closedFile();
        x.write(1, 0, 7);
        for (int times = 1; times <= 6; times++) {
            x.spoil(2);
            x.spoil(3);
            Due.is("tables() after " + times, x.tables(), times % 2 == 0 ? 1 : 0);
            Due.is("block(0, 1, 0) after " + times, x.block(0, 1, 0), times % 2 == 0 ? 7 : SPOILED);
        }
    }

    private static void spoilOfNoSector() {
        Due.sentence("9: True; false if no sector is written there");
        SessionTables x = new SessionTables(16);
        Due.is("spoil(0) of a new object", x.spoil(0), false);
        x.close();
        Due.is("spoil(0)", x.spoil(0), true);
        Due.is("spoil(1)", x.spoil(1), true);
        Due.is("spoil(2)", x.spoil(2), false);
        Due.is("spoil(15)", x.spoil(15), false);
        for (int place : new int[] {Integer.MIN_VALUE, -1, 16, 17, 1 << 28, Integer.MAX_VALUE}) {
            Due.is("spoil(" + place + ")", x.spoil(place), false);
        }
        Due.unwritten(x, 2);
        Due.unwritten(x, 15);
        SessionTables y = Due.fileWithLeft(0);
        Due.is("spoil(15) of a full medium", y.spoil(15), true);
        Due.is("spoil(16) of a full medium", y.spoil(16), false);
        Due.is("tables()", y.tables(), 0);
    }
}
