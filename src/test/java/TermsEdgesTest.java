import java.util.Map;
import java.util.TreeMap;

/** The document's first section and its "Terms": a test of its own for each sentence with an edge. */
public final class TermsEdgesTest {
    private static final Check CHECK = new Check();
    private static final int BAD = TornBackups.BAD;
    private static final int FULL = TornBackups.FULL;
    private static final int NONE = TornBackups.NONE;
    private static final int BETWEEN = TornBackups.BETWEEN;
    private static final int MISSING = TornBackups.MISSING;

    public static void main(String[] args) {
        recordsOf512Calls();
        restoreAtTheEndOf512Calls();
        mostSegmentsOf512Calls();
        keysOnPages();
        openTransactions();
        recordsAndPosition();
        syncedRecordsLast();
        commitIsDoneAt();
        setsInTheirOrder();
        setsSinceItWasOpened();
        memoryAtOnce();
        diskAllZeroAtFirst();
        diskAsLastFlushed();
        dirtySinceLastFlushed();
        dirtyOrEver();
        dirtyNotLostSince();
        flushSyncsFirst();
        flushNeedsNoSync();
        checkpointSyncsAndFlushes();
        redoOfOpenTransactions();
        redoIsAFirstSet();
        redoIfNoneIsOpen();
        backupCopiesEachPage();
        backupStart();
        backupFinished();
        backupEnd();
        threeBackups();
        recordsOfASegment();
        archiveOfTen();
        archiveStaysAsItIs();
        restoreGivesEveryKey();
        CHECK.finish();
    }

    private static void recordsOf512Calls() {
        CHECK.part("An object is used for at most 512 calls: a record with each");
        TornBackups x = new TornBackups();
        for (int call = 1; call < 512; call += 2) {
            CHECK.due("call " + call + ", set", x.set(call % 3, call % 32, call), call);
            CHECK.due("call " + (call + 1) + ", commit", x.commit(call % 3), call + 1);
        }
        TornBackups y = new TornBackups();
        for (int call = 1; call < 512; call++) {
            y.crash();
        }
        CHECK.due("call 512, position()", y.position(), 511);
        TornBackups z = new TornBackups();
        for (int call = 1; call < 511; call += 2) {
            Steps.put(z, 0, call % 32, call);
        }
        z.sync();
        CHECK.due("call 512, crash()", z.crash(), 0);
    }

    private static void restoreAtTheEndOf512Calls() {
        CHECK.part("An object is used for at most 512 calls: a restore at their end");
        TornBackups x = new TornBackups();
        for (int i = 0; i < 160; i++) {
            Steps.put(x, i % 3, i % 32, 1000 + i);
        }
        Steps.wholeBackup(x);
        for (int i = 160; i < 200; i++) {
            Steps.put(x, i % 3, i % 32, 1000 + i);
        }
        x.sync();
        for (int segment = 0; segment < 50; segment++) {
            if (segment >= 10) {
                CHECK.due("drop", x.drop(segment - 10), true);
            }
            CHECK.due("archive()", x.archive(), segment);
        }
        CHECK.due("call 501, restore(0, 400)", x.restore(0, 400), 0);
        CHECK.due("replayed()", x.replayed(), 80);
        int[] keys = {0, 3, 4, 7, 8, 15, 16, 27, 28, 31};
        for (int key : keys) {
            CHECK.due("restored(" + key + ")", x.restored(key), key < 8 ? 1192 + key : 1160 + key);
        }
    }

    private static void mostSegmentsOf512Calls() {
        CHECK.part("An object is used for at most 512 calls: 52 segments archived");
        TornBackups x = new TornBackups();
        for (int i = 0; i < 208; i++) {
            Steps.put(x, 0, 0, i);
        }
        x.sync();
        for (int segment = 0; segment < 52; segment++) {
            if (segment >= 10) {
                x.drop(segment - 10);
            }
            CHECK.due("archive()", x.archive(), segment);
        }
        CHECK.due("call 512, drop(51)", x.drop(51), true);
    }

    private static void keysOnPages() {
        CHECK.part("32 KEYS, 0 .. 31, on 8 PAGES: key k lies on page k / 4");
        for (int key = 0; key < 32; key++) {
            for (int page = 0; page < 8; page++) {
                TornBackups x = new TornBackups();
                CHECK.due("set(0, " + key + ", 1)", x.set(0, key, 1), 1);
                x.commit(0);
                CHECK.due("flush(" + page + ")", x.flush(page), page == key / 4 ? 1 : 0);
            }
        }
    }

    private static void openTransactions() {
        CHECK.part("one is OPEN from its first set() until it commits, aborts, or the store crashes");
        for (int transaction = 0; transaction < 3; transaction++) {
            TornBackups x = new TornBackups();
            CHECK.due("commit before its first set", x.commit(transaction), NONE);
            x.set(transaction, 0, 1);
            CHECK.due("commit of another", x.commit((transaction + 1) % 3), NONE);
            CHECK.due("abort of another", x.abort((transaction + 2) % 3), NONE);
            CHECK.due("commit", x.commit(transaction), 2);
            CHECK.due("commit again", x.commit(transaction), NONE);
            x.set(transaction, 0, 1);
            CHECK.due("abort", x.abort(transaction), 4);
            CHECK.due("abort again", x.abort(transaction), NONE);
            x.set(transaction, 0, 1);
            x.sync();
            x.crash();
            CHECK.due("commit behind the crash", x.commit(transaction), NONE);
        }
        TornBackups x = new TornBackups();
        for (int transaction = 0; transaction < 3; transaction++) {
            x.set(transaction, 0, 1);
        }
        for (int transaction = 0; transaction < 3; transaction++) {
            CHECK.due("all three are open", x.commit(transaction), 4 + transaction);
        }
    }

    private static void recordsAndPosition() {
        CHECK.part("set() adds a SET, commit() a COMMIT, abort() an ABORT, crash() a RESTART. The POSITION is how many there are");
        TornBackups x = new TornBackups();
        CHECK.due("none", x.position(), 0);
        x.set(0, 0, 1);
        CHECK.due("a SET", x.position(), 1);
        x.commit(0);
        CHECK.due("a COMMIT", x.position(), 2);
        x.set(0, 0, 1);
        x.abort(0);
        CHECK.due("an ABORT", x.position(), 4);
        x.sync();
        x.crash();
        CHECK.due("a RESTART", x.position(), 5);
    }

    private static void syncedRecordsLast() {
        CHECK.part("Of these the first SYNCED ones last (0 at first)");
        TornBackups x = new TornBackups();
        Steps.put(x, 0, 0, 1);
        CHECK.due("crash() with none synced", x.crash(), 2);
        CHECK.due("position()", x.position(), 1);
        CHECK.due("get(0)", x.get(0), 0);
        Steps.put(x, 0, 0, 2);
        x.sync();
        Steps.put(x, 0, 0, 3);
        CHECK.due("crash() with some synced", x.crash(), 2);
        CHECK.due("position()", x.position(), 4);
        CHECK.due("get(0)", x.get(0), 2);
        x.set(0, 0, 4);
        x.commit(0);
        x.sync();
        CHECK.due("crash() with all synced", x.crash(), 0);
        CHECK.due("position()", x.position(), 7);
        CHECK.due("get(0)", x.get(0), 4);
    }

    private static void commitIsDoneAt() {
        CHECK.part("A COMMIT that is record number p - 1 is done AT position p");
        TornBackups x = new TornBackups();
        Steps.wholeBackup(x);
        x.set(0, 0, 1);
        x.set(0, 1, 1);
        CHECK.due("record 2", x.commit(0), 3);
        x.set(0, 0, 2);
        CHECK.due("record 4", x.commit(0), 5);
        Steps.fillTo(x, 8);
        Steps.archiveAll(x);
        CHECK.due("restore(0, 2)", x.restore(0, 2), BETWEEN);
        CHECK.due("restore(0, 3)", x.restore(0, 3), 0);
        CHECK.due("restored(0)", x.restored(0), 1);
        CHECK.due("restore(0, 4)", x.restore(0, 4), BETWEEN);
        CHECK.due("restore(0, 5)", x.restore(0, 5), 0);
        CHECK.due("restored(0)", x.restored(0), 2);
        CHECK.due("restore(0, 6)", x.restore(0, 6), BETWEEN);
    }

    private static void setsInTheirOrder() {
        CHECK.part("the sets become the keys' values, one after the other in their order");
        TornBackups x = new TornBackups();
        for (int value = 4; value >= 1; value--) {
            x.set(0, 7, value);
        }
        x.commit(0);
        CHECK.due("four of one key", x.get(7), 1);
        x.set(1, 0, 1);
        x.set(1, 31, 2);
        x.set(1, 0, 3);
        x.set(1, 31, 0);
        x.commit(1);
        CHECK.due("get(0)", x.get(0), 3);
        CHECK.due("back to 0", x.get(31), 0);
        x.set(0, 9, 1);
        x.set(1, 9, 2);
        x.commit(1);
        x.commit(0);
        CHECK.due("the later commit, not the later set", x.get(9), 1);
    }

    private static void setsSinceItWasOpened() {
        CHECK.part("the sets of its transaction that were added since that was opened");
        TornBackups x = new TornBackups();
        x.set(0, 1, 11);
        x.set(0, 2, 12);
        x.abort(0);
        Steps.put(x, 0, 3, 13);
        CHECK.due("aborted", x.get(1), 0);
        CHECK.due("aborted", x.get(2), 0);
        Steps.put(x, 1, 3, 14);
        Steps.put(x, 0, 4, 15);
        CHECK.due("a committed set is not done twice", x.get(3), 14);
        x.set(2, 5, 16);
        x.sync();
        x.crash();
        Steps.put(x, 2, 6, 17);
        CHECK.due("crashed", x.get(5), 0);
        x.set(1, 7, 18);
        Steps.put(x, 0, 8, 19);
        CHECK.due("another's set", x.get(7), 0);
    }

    private static void memoryAtOnce() {
        CHECK.part("What was committed is in the MEMORY's pages at once");
        TornBackups x = new TornBackups();
        x.set(0, 31, 5);
        CHECK.due("before the commit", x.get(31), 0);
        x.commit(0);
        CHECK.due("behind it", x.get(31), 5);
        CHECK.due("nothing was synced for it", x.sync(), 2);
    }

    private static void diskAllZeroAtFirst() {
        CHECK.part("a page of the DISK has what the memory's page had when it was last FLUSHED (all 0 at first)");
        TornBackups x = new TornBackups();
        x.backup();
        for (int key = 0; key < 32; key++) {
            Steps.put(x, 0, key, 5);
        }
        Steps.copyPages(x, 8);
        CHECK.due("restore(0, 0)", x.restore(0, 0), 0);
        for (int key = 0; key < 32; key++) {
            CHECK.due("restored(" + key + ")", x.restored(key), 0);
        }
    }

    private static void diskAsLastFlushed() {
        CHECK.part("a page of the DISK has what the memory's page had when it was last FLUSHED");
        for (int page = 0; page < 8; page++) {
            TornBackups x = new TornBackups();
            for (int key = 4 * page; key < 4 * page + 4; key++) {
                Steps.put(x, 0, key, 10 + key);
            }
            x.flush(page);
            Steps.put(x, 0, 4 * page, 70);
            CHECK.due("backup(), which flushes again", x.backup(), 0);
            Steps.put(x, 0, 4 * page, 71);
            Steps.put(x, 0, 4 * page + 3, 72);
            Steps.copyPages(x, 8);
            CHECK.due("restore(0, 10)", x.restore(0, 10), 0);
            CHECK.due("first key of page " + page, x.restored(4 * page), 70);
            CHECK.due("second key of page " + page, x.restored(4 * page + 1), 11 + 4 * page);
            CHECK.due("last key of page " + page, x.restored(4 * page + 3), 13 + 4 * page);
        }
    }

    private static void dirtySinceLastFlushed() {
        CHECK.part("A page is DIRTY if a commit with a set for one of its keys was done since it was last flushed");
        TornBackups x = new TornBackups();
        Steps.put(x, 0, 8, 1);
        x.flush(2);
        CHECK.due("flushed", x.dirty(), 0);
        x.set(0, 11, 0);
        CHECK.due("a set alone", x.dirty(), 0);
        x.abort(0);
        CHECK.due("an abort", x.dirty(), 0);
        x.set(0, 11, 0);
        x.commit(0);
        CHECK.due("a commit of the value that was there", x.dirty(), 1);
        Steps.put(x, 0, 8, 2);
        CHECK.due("the same page", x.dirty(), 1);
        Steps.put(x, 0, 7, 1);
        Steps.put(x, 0, 12, 1);
        CHECK.due("the pages beside it", x.dirty(), 3);
    }

    private static void dirtyOrEver() {
        CHECK.part("(or ever, if it never was)");
        TornBackups x = new TornBackups();
        CHECK.due("no commit", x.dirty(), 0);
        Steps.put(x, 0, 0, 0);
        x.sync();
        Steps.put(x, 0, 4, 1);
        x.flush(1);
        CHECK.due("page 0 was never flushed", x.dirty(), 1);
        CHECK.due("flush(0)", x.flush(0), 1);
    }

    private static void dirtyNotLostSince() {
        CHECK.part("and was not lost since");
        TornBackups x = new TornBackups();
        Steps.put(x, 0, 0, 1);
        x.crash();
        CHECK.due("lost", x.dirty(), 0);
        CHECK.due("flush(0)", x.flush(0), 0);
        Steps.put(x, 0, 0, 2);
        x.sync();
        Steps.put(x, 0, 0, 3);
        Steps.put(x, 0, 4, 3);
        x.crash();
        CHECK.due("an earlier one of page 0 was not lost", x.dirty(), 1);
        CHECK.due("flush(1)", x.flush(1), 0);
        CHECK.due("flush(0)", x.flush(0), 1);
        CHECK.due("get(0)", x.get(0), 2);
    }

    private static void flushSyncsFirst() {
        CHECK.part("Flushing a page that has such a commit beyond the synced records syncs the log first (then all records are synced)");
        TornBackups x = new TornBackups();
        x.set(0, 0, 1);
        x.sync();
        x.commit(0);
        x.flush(0);
        CHECK.due("the commit is the first beyond", x.sync(), 0);
        Steps.put(x, 0, 0, 2);
        x.set(1, 9, 9);
        Steps.put(x, 2, 20, 2);
        x.flush(0);
        CHECK.due("the records behind the commit too", x.sync(), 0);
        Steps.put(x, 0, 4, 3);
        x.sync();
        Steps.put(x, 0, 4, 4);
        x.flush(1);
        CHECK.due("one commit of the page synced, one beyond", x.sync(), 0);
        CHECK.due("crash()", x.crash(), 0);
        CHECK.due("get(4)", x.get(4), 4);
    }

    private static void flushNeedsNoSync() {
        CHECK.part("such a commit (with a set for one of its keys, not flushed yet) beyond the synced records");
        TornBackups x = new TornBackups();
        Steps.put(x, 0, 0, 1);
        x.sync();
        x.set(1, 0, 2);
        CHECK.due("flush(0)", x.flush(0), 1);
        CHECK.due("the commit is the last synced, a set is beyond", x.sync(), 1);
        x.commit(1);
        x.sync();
        Steps.put(x, 0, 4, 1);
        CHECK.due("flush(0)", x.flush(0), 1);
        CHECK.due("a commit of another page is beyond", x.sync(), 2);
        Steps.put(x, 0, 8, 1);
        x.sync();
        Steps.put(x, 0, 8, 2);
        x.crash();
        x.set(0, 8, 3);
        x.set(0, 8, 3);
        x.set(0, 8, 3);
        CHECK.due("flush(2)", x.flush(2), 1);
        CHECK.due("the commit beyond was lost", x.sync(), 3);
    }

    private static void checkpointSyncsAndFlushes() {
        CHECK.part("A CHECKPOINT syncs the log and flushes all pages (it is no record)");
        TornBackups x = new TornBackups();
        x.set(0, 0, 1);
        x.checkpoint();
        CHECK.due("synced though no page was dirty", x.sync(), 0);
        x.abort(0);
        for (int page = 0; page < 8; page++) {
            Steps.put(x, 0, 4 * page, 1);
        }
        x.checkpoint();
        CHECK.due("dirty()", x.dirty(), 0);
        CHECK.due("sync()", x.sync(), 0);
        CHECK.due("position()", x.position(), 18);
        CHECK.due("crash()", x.crash(), 0);
        CHECK.due("get(28)", x.get(28), 1);
    }

    private static void redoOfOpenTransactions() {
        CHECK.part("Its REDO position is the number of the least first SET of a transaction that is open");
        int[][] orders = {{0, 1, 2}, {0, 2, 1}, {1, 0, 2}, {1, 2, 0}, {2, 0, 1}, {2, 1, 0}};
        for (int[] order : orders) {
            TornBackups x = new TornBackups();
            Steps.put(x, 0, 0, 1);
            for (int transaction : order) {
                x.set(transaction, 1, 1);
            }
            CHECK.due("three open", x.checkpoint(), 2);
            x.commit(order[0]);
            CHECK.due("two open", x.checkpoint(), 3);
            x.abort(order[1]);
            CHECK.due("one open", x.checkpoint(), 4);
            x.set(order[0], 1, 1);
            CHECK.due("one opened again", x.checkpoint(), 4);
            x.commit(order[2]);
            CHECK.due("that one open", x.checkpoint(), 7);
        }
    }

    private static void redoIsAFirstSet() {
        CHECK.part("the least first SET");
        TornBackups x = new TornBackups();
        x.set(0, 0, 1);
        CHECK.due("record 0", x.checkpoint(), 0);
        x.set(0, 0, 1);
        CHECK.due("its second set does not count", x.checkpoint(), 0);
        x.commit(0);
        x.set(0, 0, 1);
        x.set(0, 0, 1);
        CHECK.due("nor a set before it was opened", x.checkpoint(), 3);
    }

    private static void redoIfNoneIsOpen() {
        CHECK.part("or the position, if none is open");
        TornBackups x = new TornBackups();
        CHECK.due("an empty log", x.checkpoint(), 0);
        Steps.put(x, 0, 0, 1);
        CHECK.due("committed", x.checkpoint(), 2);
        x.set(1, 0, 1);
        x.abort(1);
        CHECK.due("aborted", x.checkpoint(), 4);
        x.set(2, 0, 1);
        x.sync();
        x.crash();
        CHECK.due("crashed", x.checkpoint(), 6);
    }

    private static void backupCopiesEachPage() {
        CHECK.part("A BACKUP copies the disk's pages, page 0 first, one with each copy(), each as the disk has it then");
        for (int copied = 0; copied <= 8; copied++) {
            TornBackups x = new TornBackups();
            putOnEachPage(x, 10);
            x.backup();
            Steps.copyPages(x, copied);
            putOnEachPage(x, 20);
            Steps.copyPages(x, 8 - copied);
            CHECK.due("restore(0, 16)", x.restore(0, 16), 0);
            for (int page = 0; page < 8; page++) {
                CHECK.due("the memory has more, page " + page, x.restored(4 * page), 10 + page);
            }
            x.checkpoint();
            CHECK.due("restore(0, 16)", x.restore(0, 16), 0);
            for (int page = 0; page < 8; page++) {
                CHECK.due("flushed behind its end, page " + page, x.restored(4 * page), 10 + page);
            }
        }
    }

    private static void putOnEachPage(TornBackups x, int value) {
        for (int page = 0; page < 8; page++) {
            Steps.put(x, 0, 4 * page, value + page);
        }
    }

    private static void backupStart() {
        CHECK.part("It BEGINS with a checkpoint; its START is the redo position of that");
        TornBackups x = new TornBackups();
        Steps.put(x, 0, 0, 1);
        x.set(1, 0, 1);
        x.set(0, 0, 1);
        x.backup();
        CHECK.due("sync()", x.sync(), 0);
        CHECK.due("dirty()", x.dirty(), 0);
        x.commit(1);
        x.commit(0);
        Steps.copyPages(x, 8);
        CHECK.due("of that, though none is open now", x.bound(0, 0), 2);
        x.set(1, 0, 1);
        x.abort(1);
        x.backup();
        x.set(1, 0, 1);
        Steps.copyPages(x, 8);
        CHECK.due("of that, though one is open now", x.bound(1, 0), 8);
    }

    private static void backupFinished() {
        CHECK.part("It is FINISHED when page 7 was copied");
        TornBackups x = new TornBackups();
        x.backup();
        Steps.copyPages(x, 7);
        CHECK.due("forget(0) before", x.forget(0), false);
        CHECK.due("bound(0, 0) before", x.bound(0, 0), BAD);
        CHECK.due("restore(0, 0) before", x.restore(0, 0), BAD);
        CHECK.due("reach(0) before", x.reach(0), -1);
        CHECK.due("backup() before", x.backup(), BAD);
        x.copy();
        CHECK.due("bound(0, 0) behind", x.bound(0, 0), 0);
        CHECK.due("restore(0, 0) behind", x.restore(0, 0), 0);
        CHECK.due("reach(0) behind", x.reach(0), 0);
        CHECK.due("backup() behind", x.backup(), 1);
        CHECK.due("forget(0) behind", x.forget(0), true);
    }

    private static void backupEnd() {
        CHECK.part("its END is the number of synced records then");
        TornBackups x = new TornBackups();
        x.backup();
        Steps.put(x, 0, 0, 1);
        Steps.copyPages(x, 7);
        x.sync();
        x.set(0, 0, 2);
        x.copy();
        x.sync();
        CHECK.due("not those synced behind page 7", x.bound(0, 1), 2);
        x.backup();
        x.commit(0);
        Steps.copyPages(x, 7);
        x.flush(0);
        x.copy();
        CHECK.due("those that a flush synced", x.bound(1, 1), 4);
        x.set(0, 0, 3);
        x.backup();
        x.set(0, 0, 3);
        Steps.copyPages(x, 8);
        CHECK.due("those that its own checkpoint synced", x.bound(2, 1), 5);
    }

    private static void threeBackups() {
        CHECK.part("At most 3 backups are there, finished or not, with the numbers 0 .. 2, of which one at most is not finished");
        TornBackups x = new TornBackups();
        for (int number = 0; number < 3; number++) {
            CHECK.due("backup()", x.backup(), number);
            CHECK.due("one is not finished", x.backup(), BAD);
            Steps.copyPages(x, 8);
        }
        CHECK.due("three are finished", x.backup(), FULL);
        for (int number = 0; number < 3; number++) {
            CHECK.due("bound(" + number + ", 0)", x.bound(number, 0), 0);
        }
    }

    private static void recordsOfASegment() {
        CHECK.part("SEGMENT n is the records 8 * n .. 8 * n + 7");
        for (int segment = 0; segment < 4; segment++) {
            TornBackups x = new TornBackups();
            Steps.fillTo(x, 8 * segment + 7);
            x.sync();
            for (int n = 0; n < segment; n++) {
                CHECK.due("archive()", x.archive(), n);
            }
            CHECK.due("without its last record", x.archive(), NONE);
            x.set(0, 0, 1);
            x.sync();
            CHECK.due("with its last record", x.archive(), segment);
        }
    }

    private static void archiveOfTen() {
        CHECK.part("THE ARCHIVE holds copies of segments, at most 10");
        TornBackups x = new TornBackups();
        Steps.wholeBackup(x);
        for (int i = 0; i < 44; i++) {
            Steps.put(x, 0, 0, i);
        }
        x.sync();
        for (int segment = 0; segment < 10; segment++) {
            CHECK.due("archive()", x.archive(), segment);
        }
        CHECK.due("an eleventh", x.archive(), FULL);
        CHECK.due("ten are held", x.restore(0, 80), 0);
        CHECK.due("restored(0)", x.restored(0), 39);
        CHECK.due("the eleventh is not", x.restore(0, 82), MISSING);
        for (int segment = 0; segment < 10; segment++) {
            CHECK.due("drop(" + segment + ")", x.drop(segment), true);
        }
        CHECK.due("drop(10)", x.drop(10), false);
    }

    private static void archiveStaysAsItIs() {
        CHECK.part("what it holds stays as it is, whatever happens to the log");
        TornBackups x = new TornBackups();
        Steps.wholeBackup(x);
        for (int i = 1; i <= 5; i++) {
            Steps.put(x, 0, 0, i);
        }
        x.sync();
        x.archive();
        Steps.put(x, 0, 0, 6);
        Steps.put(x, 0, 1, 6);
        x.crash();
        Steps.put(x, 0, 0, 7);
        x.crash();
        x.checkpoint();
        for (int i = 1; i <= 4; i++) {
            CHECK.due("restore(0, " + 2 * i + ")", x.restore(0, 2 * i), 0);
            CHECK.due("restored(0)", x.restored(0), i);
            CHECK.due("restored(1)", x.restored(1), 0);
        }
    }

    /** What get() says of every key at a commit is kept, and asked again of a restore to that commit. */
    private static void restoreGivesEveryKey() {
        CHECK.part("A RESTORE to a position t gives every key the value that it has by all commits done at positions up to t");
        TornBackups x = new TornBackups();
        Map<Integer, int[]> seen = new TreeMap<>();
        Steps.put(x, 0, 2, 90);
        x.set(1, 0, 1);
        x.set(2, 1, 2);
        Steps.put(x, 0, 1, 91);
        x.backup();
        Steps.copyPages(x, 2);
        x.set(1, 31, 3);
        seen.put(x.commit(1), valuesOf(x));
        x.flush(7);
        x.flush(0);
        Steps.copyPages(x, 6);
        seen.put(x.commit(2), valuesOf(x));
        x.set(0, 4, 4);
        x.set(0, 8, 4);
        x.set(0, 4, 5);
        seen.put(x.commit(0), valuesOf(x));
        x.set(1, 2, 6);
        x.sync();
        Steps.put(x, 0, 2, 7);
        x.crash();
        x.set(1, 16, 8);
        seen.put(x.commit(1), valuesOf(x));
        x.set(2, 16, 9);
        x.abort(2);
        x.set(2, 17, 10);
        seen.put(x.commit(2), valuesOf(x));
        Steps.fillTo(x, 24);
        Steps.archiveAll(x);
        CHECK.due("its end", x.bound(0, 1), 8);
        CHECK.due("commits from there on", seen.size(), 5);
        for (int position = 8; position <= 24; position++) {
            int[] values = seen.get(position);
            CHECK.due("restore(0, " + position + ")", x.restore(0, position), values == null ? BETWEEN : 0);
            for (int key = 0; key < 32 && values != null; key++) {
                CHECK.due("at " + position + ", restored(" + key + ")", x.restored(key), values[key]);
            }
        }
    }

    private static int[] valuesOf(TornBackups x) {
        int[] values = new int[32];
        for (int key = 0; key < 32; key++) {
            values[key] = x.get(key);
        }
        return values;
    }
}
