/** Promises 1 to 9, 20 and 21: a test of its own for each sentence with an edge. */
public final class StoreEdgesTest {
    private static final Check CHECK = new Check();
    private static final int BAD = TornBackups.BAD;
    private static final int FULL = TornBackups.FULL;
    private static final int NONE = TornBackups.NONE;
    private static final int BETWEEN = TornBackups.BETWEEN;
    private static final int LEAST = Integer.MIN_VALUE;
    private static final int GREATEST = Integer.MAX_VALUE;
    private static final int[] NO_TRANSACTIONS = {-1, 3, 4, LEAST, GREATEST};
    private static final int[] NO_KEYS = {-1, 32, 33, LEAST, GREATEST};
    private static final int[] NO_PAGES = {-1, 8, 9, LEAST, GREATEST};

    public static void main(String[] args) {
        newValues();
        newLog();
        newNothingSynced();
        newNoTransaction();
        newNoBackup();
        newArchive();
        newNothingRestored();
        setOpens();
        setBadTransaction();
        setBadKey();
        setFull();
        setFullSinceItWasOpened();
        setBadOfAFullOne();
        setNotSeen();
        setAnyValue();
        commitPosition();
        commitBad();
        commitNone();
        abortPosition();
        abortBad();
        abortNone();
        getSyncedOrNot();
        getNotLost();
        getNoSuchKey();
        syncCounts();
        flushDirty();
        flushNothingChanges();
        flushBad();
        checkpointRedo();
        crashLosesRecords();
        crashLosesCommits();
        crashEndsTransactions();
        crashEndsABackup();
        crashLeavesValues();
        crashAddsARestart();
        crashCountsTheLost();
        crashLeavesTheRest();
        positionAnswers();
        dirtyCounts();
        CHECK.finish();
    }

    private static void newValues() {
        CHECK.part("promise 1, All values 0");
        TornBackups x = new TornBackups();
        for (int key = 0; key < 32; key++) {
            CHECK.due("get(" + key + ")", x.get(key), 0);
        }
        CHECK.due("dirty()", x.dirty(), 0);
        for (int page = 0; page < 8; page++) {
            CHECK.due("flush(" + page + ")", x.flush(page), 0);
        }
    }

    private static void newLog() {
        CHECK.part("promise 1, an empty log");
        CHECK.due("position()", new TornBackups().position(), 0);
        CHECK.due("the first set", new TornBackups().set(0, 0, 1), 1);
        CHECK.due("checkpoint()", new TornBackups().checkpoint(), 0);
    }

    private static void newNothingSynced() {
        CHECK.part("promise 1, nothing synced");
        CHECK.due("sync()", new TornBackups().sync(), 0);
        CHECK.due("crash()", new TornBackups().crash(), 0);
        TornBackups x = new TornBackups();
        x.set(0, 0, 1);
        CHECK.due("a record is lost", x.crash(), 1);
        TornBackups y = new TornBackups();
        Steps.wholeBackup(y);
        CHECK.due("a backup's end", y.bound(0, 1), 0);
    }

    private static void newNoTransaction() {
        CHECK.part("promise 1, no transaction open");
        TornBackups x = new TornBackups();
        for (int transaction = 0; transaction < 3; transaction++) {
            CHECK.due("commit(" + transaction + ")", x.commit(transaction), NONE);
            CHECK.due("abort(" + transaction + ")", x.abort(transaction), NONE);
        }
    }

    private static void newNoBackup() {
        CHECK.part("promise 1, no backup");
        TornBackups x = new TornBackups();
        CHECK.due("copy()", x.copy(), NONE);
        for (int number = 0; number < 3; number++) {
            CHECK.due("forget(" + number + ")", x.forget(number), false);
            CHECK.due("bound(" + number + ", 0)", x.bound(number, 0), BAD);
            CHECK.due("bound(" + number + ", 1)", x.bound(number, 1), BAD);
            CHECK.due("restore(" + number + ", 0)", x.restore(number, 0), BAD);
            CHECK.due("reach(" + number + ")", x.reach(number), -1);
        }
        CHECK.due("backup()", x.backup(), 0);
    }

    private static void newArchive() {
        CHECK.part("promise 1, an empty archive");
        TornBackups x = new TornBackups();
        CHECK.due("archive()", x.archive(), NONE);
        for (int segment = 0; segment <= 64; segment++) {
            CHECK.due("drop(" + segment + ")", x.drop(segment), false);
        }
    }

    private static void newNothingRestored() {
        CHECK.part("promise 1, nothing restored");
        TornBackups x = new TornBackups();
        for (int key = 0; key < 32; key++) {
            CHECK.due("restored(" + key + ")", x.restored(key), 0);
        }
        CHECK.due("replayed()", x.replayed(), 0);
    }

    private static void setOpens() {
        CHECK.part("promise 2, a transaction, which is opened if it is not open: the position then");
        TornBackups x = new TornBackups();
        CHECK.due("set(0, 0, 1)", x.set(0, 0, 1), 1);
        CHECK.due("set(0, 31, 1)", x.set(0, 31, 1), 2);
        CHECK.due("set(2, 0, 1)", x.set(2, 0, 1), 3);
        CHECK.due("set(1, 31, 1)", x.set(1, 31, 1), 4);
        CHECK.due("commit(0)", x.commit(0), 5);
        CHECK.due("opened again", x.set(0, 0, 1), 6);
        CHECK.due("commit(2)", x.commit(2), 7);
        CHECK.due("commit(1)", x.commit(1), 8);
    }

    private static void setBadTransaction() {
        CHECK.part("promise 2, BAD when transaction is not 0 .. 2");
        TornBackups x = new TornBackups();
        for (int number : NO_TRANSACTIONS) {
            CHECK.due("set(" + number + ", 0, 1)", x.set(number, 0, 1), BAD);
        }
        CHECK.due("position()", x.position(), 0);
        CHECK.due("set(0, 0, 1)", x.set(0, 0, 1), 1);
        CHECK.due("set(2, 0, 1)", x.set(2, 0, 1), 2);
    }

    private static void setBadKey() {
        CHECK.part("promise 2, or key is not 0 .. 31");
        TornBackups x = new TornBackups();
        for (int number : NO_KEYS) {
            CHECK.due("set(0, " + number + ", 1)", x.set(0, number, 1), BAD);
        }
        CHECK.due("position()", x.position(), 0);
        CHECK.due("opened nothing", x.commit(0), NONE);
        CHECK.due("set(0, 0, 1)", x.set(0, 0, 1), 1);
        CHECK.due("set(0, 31, 1)", x.set(0, 31, 1), 2);
    }

    private static void setFull() {
        CHECK.part("promise 2, FULL when the transaction has 4 sets already");
        for (int transaction = 0; transaction < 3; transaction++) {
            TornBackups x = new TornBackups();
            for (int i = 1; i <= 4; i++) {
                CHECK.due("set number " + i, x.set(transaction, i, i), i);
            }
            CHECK.due("the 5th", x.set(transaction, 5, 5), FULL);
            CHECK.due("the 5th again", x.set(transaction, 1, 1), FULL);
            CHECK.due("position()", x.position(), 4);
            CHECK.due("another's first", x.set((transaction + 1) % 3, 5, 5), 5);
            CHECK.due("commit", x.commit(transaction), 6);
            CHECK.due("the 4th was done", x.get(4), 4);
            CHECK.due("the 5th was not", x.get(5), 0);
        }
    }

    private static void setFullSinceItWasOpened() {
        CHECK.part("promise 2, (since it was opened)");
        TornBackups x = new TornBackups();
        fourSets(x, 0);
        x.commit(0);
        fourSets(x, 5);
        x.abort(0);
        fourSets(x, 10);
        x.sync();
        x.crash();
        fourSets(x, 15);
        x.crash();
        fourSets(x, 16);
    }

    private static void fourSets(TornBackups x, int position) {
        for (int i = 1; i <= 4; i++) {
            CHECK.due("set number " + i, x.set(0, i, i), position + i);
        }
        CHECK.due("the 5th", x.set(0, 5, 5), FULL);
    }

    private static void setBadOfAFullOne() {
        CHECK.part("promise 2, BAD is named before FULL");
        TornBackups x = new TornBackups();
        fourSets(x, 0);
        CHECK.due("set(0, 32, 1)", x.set(0, 32, 1), BAD);
        CHECK.due("set(0, -1, 1)", x.set(0, -1, 1), BAD);
    }

    private static void setNotSeen() {
        CHECK.part("promise 2, The value is not to be seen before the commit");
        TornBackups x = new TornBackups();
        Steps.put(x, 0, 7, 1);
        x.set(0, 7, 2);
        CHECK.due("get(7)", x.get(7), 1);
        CHECK.due("flush(1)", x.flush(1), 1);
        CHECK.due("get(7), flushed", x.get(7), 1);
        x.checkpoint();
        CHECK.due("get(7), checkpoint", x.get(7), 1);
        Steps.put(x, 1, 7, 3);
        CHECK.due("get(7), another's commit", x.get(7), 3);
        x.commit(0);
        CHECK.due("get(7), its own", x.get(7), 2);
    }

    private static void setAnyValue() {
        CHECK.part("promise 2, a value is any number");
        int[] values = {LEAST, -6, -1, 0, 1, GREATEST};
        for (int value : values) {
            TornBackups x = new TornBackups();
            Steps.put(x, 0, 0, 5);
            CHECK.due("set", x.set(0, 0, value), 3);
            x.commit(0);
            CHECK.due("get(0)", x.get(0), value);
            Steps.wholeBackup(x);
            x.restore(0, 4);
            CHECK.due("restored(0)", x.restored(0), value);
        }
    }

    private static void commitPosition() {
        CHECK.part("promise 3, the position then, at which it is done");
        TornBackups x = new TornBackups();
        x.set(2, 0, 1);
        CHECK.due("of one set", x.commit(2), 2);
        for (int i = 0; i < 4; i++) {
            x.set(1, i, 5);
        }
        CHECK.due("of four sets", x.commit(1), 7);
        CHECK.due("position()", x.position(), 7);
        CHECK.due("get(3)", x.get(3), 5);
    }

    private static void commitBad() {
        CHECK.part("promise 3, BAD when transaction is not 0 .. 2");
        TornBackups x = new TornBackups();
        openAll(x);
        for (int number : NO_TRANSACTIONS) {
            CHECK.due("commit(" + number + ")", x.commit(number), BAD);
        }
        CHECK.due("position()", x.position(), 3);
        CHECK.due("get(0)", x.get(0), 0);
        CHECK.due("commit(0)", x.commit(0), 4);
        CHECK.due("commit(2)", x.commit(2), 5);
    }

    private static void openAll(TornBackups x) {
        for (int transaction = 0; transaction < 3; transaction++) {
            x.set(transaction, transaction, 10 + transaction);
        }
    }

    private static void commitNone() {
        CHECK.part("promise 3, NONE when it is not open");
        TornBackups x = new TornBackups();
        CHECK.due("commit(0), never", x.commit(0), NONE);
        openAll(x);
        x.commit(0);
        x.abort(1);
        CHECK.due("commit(0), committed", x.commit(0), NONE);
        CHECK.due("commit(1), aborted", x.commit(1), NONE);
        x.crash();
        CHECK.due("commit(2), crashed", x.commit(2), NONE);
        CHECK.due("position()", x.position(), 1);
    }

    private static void abortPosition() {
        CHECK.part("promise 4, Ends a transaction without effect: the position then");
        TornBackups x = new TornBackups();
        Steps.put(x, 0, 5, 1);
        x.flush(1);
        x.set(0, 5, 2);
        x.set(0, 6, 2);
        CHECK.due("abort(0)", x.abort(0), 5);
        CHECK.due("position()", x.position(), 5);
        CHECK.due("get(5)", x.get(5), 1);
        CHECK.due("get(6)", x.get(6), 0);
        CHECK.due("dirty()", x.dirty(), 0);
        CHECK.due("sync()", x.sync(), 3);
    }

    private static void abortBad() {
        CHECK.part("promise 4, BAD when transaction is not 0 .. 2");
        TornBackups x = new TornBackups();
        openAll(x);
        for (int number : NO_TRANSACTIONS) {
            CHECK.due("abort(" + number + ")", x.abort(number), BAD);
        }
        CHECK.due("position()", x.position(), 3);
        CHECK.due("abort(0)", x.abort(0), 4);
        CHECK.due("abort(2)", x.abort(2), 5);
        CHECK.due("the other is open still", x.commit(1), 6);
    }

    private static void abortNone() {
        CHECK.part("promise 4, NONE when it is not open");
        TornBackups x = new TornBackups();
        CHECK.due("abort(0), never", x.abort(0), NONE);
        openAll(x);
        x.commit(0);
        x.abort(1);
        CHECK.due("abort(0), committed", x.abort(0), NONE);
        CHECK.due("abort(1), aborted", x.abort(1), NONE);
        x.crash();
        CHECK.due("abort(2), crashed", x.abort(2), NONE);
        CHECK.due("position()", x.position(), 1);
    }

    private static void getSyncedOrNot() {
        CHECK.part("promise 5, The value of a key by all commits (synced or not)");
        TornBackups x = new TornBackups();
        for (int key = 0; key < 32; key++) {
            Steps.put(x, 0, key, 100 + key);
            CHECK.due("not synced", x.get(key), 100 + key);
        }
        x.sync();
        for (int key = 0; key < 32; key++) {
            CHECK.due("synced", x.get(key), 100 + key);
        }
        x.checkpoint();
        for (int key = 0; key < 32; key++) {
            CHECK.due("flushed", x.get(key), 100 + key);
        }
    }

    private static void getNotLost() {
        CHECK.part("promise 5, that were not lost");
        TornBackups x = new TornBackups();
        Steps.put(x, 0, 0, 1);
        Steps.put(x, 0, 31, 1);
        x.sync();
        Steps.put(x, 0, 0, 2);
        x.set(0, 31, 2);
        x.crash();
        CHECK.due("the latest was lost", x.get(0), 1);
        CHECK.due("its latest was not committed", x.get(31), 1);
    }

    private static void getNoSuchKey() {
        CHECK.part("promise 5, 0 when there is no such key");
        TornBackups x = new TornBackups();
        for (int key = 0; key < 32; key++) {
            Steps.put(x, 0, key, 7);
        }
        for (int number : NO_KEYS) {
            CHECK.due("get(" + number + ")", x.get(number), 0);
        }
        CHECK.due("get(0)", x.get(0), 7);
        CHECK.due("get(31)", x.get(31), 7);
    }

    private static void syncCounts() {
        CHECK.part("promise 6, how many records were not synced before");
        TornBackups x = new TornBackups();
        CHECK.due("an empty log", x.sync(), 0);
        x.set(0, 0, 1);
        CHECK.due("one", x.sync(), 1);
        CHECK.due("none", x.sync(), 0);
        openAll(x);
        x.commit(0);
        x.abort(1);
        CHECK.due("five", x.sync(), 5);
        x.set(0, 0, 1);
        x.crash();
        CHECK.due("the RESTART is synced", x.sync(), 0);
        x.set(0, 0, 1);
        x.backup();
        CHECK.due("a backup's checkpoint synced", x.sync(), 0);
    }

    private static void flushDirty() {
        CHECK.part("promise 7, 1 when it was dirty");
        for (int page = 0; page < 8; page++) {
            TornBackups x = new TornBackups();
            Steps.put(x, 0, 4 * page + 3, 0);
            CHECK.due("flush(" + page + ")", x.flush(page), 1);
            CHECK.due("dirty()", x.dirty(), 0);
            CHECK.due("flush(" + page + ") again", x.flush(page), 0);
            Steps.put(x, 0, 4 * page, 0);
            CHECK.due("flush(" + page + "), dirty again", x.flush(page), 1);
        }
    }

    private static void flushNothingChanges() {
        CHECK.part("promise 7, otherwise 0, and nothing changes");
        TornBackups x = new TornBackups();
        Steps.put(x, 0, 0, 1);
        x.set(1, 4, 1);
        for (int page = 1; page < 8; page++) {
            CHECK.due("flush(" + page + ")", x.flush(page), 0);
        }
        CHECK.due("dirty()", x.dirty(), 1);
        CHECK.due("sync()", x.sync(), 3);
    }

    private static void flushBad() {
        CHECK.part("promise 7, BAD when page is not 0 .. 7");
        TornBackups x = new TornBackups();
        for (int page = 0; page < 8; page++) {
            Steps.put(x, 0, 4 * page, 1);
        }
        for (int number : NO_PAGES) {
            CHECK.due("flush(" + number + ")", x.flush(number), BAD);
        }
        CHECK.due("dirty()", x.dirty(), 8);
        CHECK.due("sync()", x.sync(), 16);
        CHECK.due("flush(0)", x.flush(0), 1);
        CHECK.due("flush(7)", x.flush(7), 1);
    }

    private static void checkpointRedo() {
        CHECK.part("promise 8, Makes a checkpoint: its redo position");
        TornBackups x = new TornBackups();
        CHECK.due("checkpoint()", x.checkpoint(), 0);
        Steps.put(x, 0, 0, 1);
        CHECK.due("none is open", x.checkpoint(), 2);
        CHECK.due("the same again", x.checkpoint(), 2);
        x.set(1, 0, 1);
        x.set(2, 0, 1);
        CHECK.due("two are open", x.checkpoint(), 2);
        x.commit(1);
        CHECK.due("one is open", x.checkpoint(), 3);
        x.crash();
        CHECK.due("none is open", x.checkpoint(), 6);
    }

    private static void crashLosesRecords() {
        CHECK.part("promise 9, all records that are not synced are lost");
        TornBackups x = new TornBackups();
        x.set(0, 0, 1);
        x.sync();
        x.set(0, 1, 1);
        x.set(1, 1, 1);
        x.abort(1);
        CHECK.due("crash()", x.crash(), 3);
        CHECK.due("one and the RESTART", x.position(), 2);
        TornBackups y = new TornBackups();
        Steps.wholeBackup(y);
        y.crash();
        Steps.put(y, 0, 0, 1);
        y.crash();
        Steps.fillTo(y, 8);
        Steps.archiveAll(y);
        CHECK.due("no commit is at 3 any more", y.restore(0, 3), BETWEEN);
    }

    private static void crashLosesCommits() {
        CHECK.part("promise 9, and with them what was committed by them");
        TornBackups x = new TornBackups();
        x.set(0, 0, 1);
        x.set(0, 31, 1);
        x.sync();
        x.commit(0);
        CHECK.due("before", x.get(31), 1);
        CHECK.due("the COMMIT alone", x.crash(), 1);
        CHECK.due("get(0)", x.get(0), 0);
        CHECK.due("get(31)", x.get(31), 0);
        CHECK.due("dirty()", x.dirty(), 0);
    }

    private static void crashEndsTransactions() {
        CHECK.part("promise 9, the transactions that are open are no more");
        TornBackups x = new TornBackups();
        openAll(x);
        x.sync();
        x.set(2, 5, 1);
        x.crash();
        for (int transaction = 0; transaction < 3; transaction++) {
            CHECK.due("commit(" + transaction + ")", x.commit(transaction), NONE);
            CHECK.due("abort(" + transaction + ")", x.abort(transaction), NONE);
        }
        CHECK.due("checkpoint()", x.checkpoint(), 4);
        Steps.put(x, 0, 9, 1);
        CHECK.due("get(0)", x.get(0), 0);
    }

    private static void crashEndsABackup() {
        CHECK.part("promise 9, a backup that is not finished is gone");
        for (int pages = 0; pages <= 7; pages++) {
            TornBackups x = new TornBackups();
            Steps.wholeBackup(x);
            x.backup();
            Steps.copyPages(x, pages);
            x.crash();
            CHECK.due("copy()", x.copy(), NONE);
            CHECK.due("bound(1, 0)", x.bound(1, 0), BAD);
            CHECK.due("its number", x.backup(), 1);
            CHECK.due("page 0 again", x.copy(), 7);
        }
    }

    private static void crashLeavesValues() {
        CHECK.part("promise 9, The values are those by the commits that were not lost");
        TornBackups x = new TornBackups();
        x.set(0, 0, 1);
        x.set(0, 4, 1);
        x.set(0, 8, 1);
        x.commit(0);
        x.flush(0);
        x.set(0, 0, 2);
        x.set(0, 4, 2);
        x.commit(0);
        x.sync();
        x.set(0, 0, 3);
        x.set(0, 4, 3);
        x.set(0, 8, 3);
        x.commit(0);
        x.crash();
        CHECK.due("flushed before, synced behind", x.get(0), 2);
        CHECK.due("never flushed, synced twice", x.get(4), 2);
        CHECK.due("never flushed, synced once", x.get(8), 1);
        x.crash();
        CHECK.due("once more", x.get(0), 2);
    }

    private static void crashAddsARestart() {
        CHECK.part("promise 9, Then a RESTART is added to the log and synced (also if nothing was lost)");
        TornBackups x = new TornBackups();
        CHECK.due("nothing lost", x.crash(), 0);
        CHECK.due("position()", x.position(), 1);
        CHECK.due("synced", x.crash(), 0);
        CHECK.due("position()", x.position(), 2);
        x.set(0, 0, 1);
        CHECK.due("one lost", x.crash(), 1);
        CHECK.due("position()", x.position(), 3);
        CHECK.due("sync()", x.sync(), 0);
        for (int i = 0; i < 5; i++) {
            x.crash();
        }
        CHECK.due("a segment of RESTARTs", x.archive(), 0);
    }

    private static void crashCountsTheLost() {
        CHECK.part("promise 9, Answers how many records were lost");
        for (int lost = 0; lost <= 4; lost++) {
            TornBackups x = new TornBackups();
            Steps.put(x, 0, 0, 1);
            x.sync();
            for (int i = 0; i < lost; i++) {
                x.set(0, 0, 2);
            }
            CHECK.due("crash()", x.crash(), lost);
        }
    }

    private static void crashLeavesTheRest() {
        CHECK.part("promise 9, Finished backups, the archive and what was restored stay");
        TornBackups x = new TornBackups();
        Steps.wholeBackup(x);
        for (int i = 1; i <= 8; i++) {
            Steps.put(x, 0, i, i);
        }
        Steps.archiveAll(x);
        Steps.wholeBackup(x);
        x.set(0, 0, 1);
        Steps.wholeBackup(x);
        x.restore(0, 10);
        x.crash();
        CHECK.due("restored(5)", x.restored(5), 5);
        CHECK.due("restored(6)", x.restored(6), 0);
        CHECK.due("replayed()", x.replayed(), 10);
        CHECK.due("bound(0, 1)", x.bound(0, 1), 0);
        CHECK.due("bound(1, 1)", x.bound(1, 1), 16);
        CHECK.due("bound(2, 0)", x.bound(2, 0), 16);
        CHECK.due("bound(2, 1)", x.bound(2, 1), 17);
        CHECK.due("reach(0)", x.reach(0), 16);
        CHECK.due("three are there", x.backup(), FULL);
        CHECK.due("drop(0)", x.drop(0), true);
        CHECK.due("drop(1)", x.drop(1), true);
    }

    private static void positionAnswers() {
        CHECK.part("promise 20, The position");
        TornBackups x = new TornBackups();
        CHECK.due("at first", x.position(), 0);
        for (int i = 1; i <= 4; i++) {
            x.set(0, 0, i);
            CHECK.due("behind a set", x.position(), i);
        }
        x.set(0, 0, 5);
        x.commit(1);
        x.abort(3);
        CHECK.due("refused calls", x.position(), 4);
        x.sync();
        x.flush(0);
        x.checkpoint();
        Steps.wholeBackup(x);
        x.archive();
        x.restore(0, 4);
        CHECK.due("calls that add no record", x.position(), 4);
        x.set(1, 1, 1);
        x.crash();
        CHECK.due("behind a crash", x.position(), 5);
    }

    private static void dirtyCounts() {
        CHECK.part("promise 21, How many pages are dirty");
        TornBackups x = new TornBackups();
        for (int page = 0; page < 8; page++) {
            CHECK.due("dirty()", x.dirty(), page);
            Steps.put(x, 0, 4 * page, 1);
            Steps.put(x, 0, 4 * page + 3, 1);
        }
        CHECK.due("all", x.dirty(), 8);
        for (int page = 7; page >= 0; page--) {
            x.flush(page);
            CHECK.due("dirty()", x.dirty(), page);
        }
        x.set(0, 3, 1);
        x.set(0, 4, 1);
        x.set(0, 27, 1);
        x.set(0, 28, 1);
        x.commit(0);
        CHECK.due("four pages of one commit", x.dirty(), 4);
    }
}
