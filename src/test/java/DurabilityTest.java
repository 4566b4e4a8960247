/** Promises 6 to 9 and 21: sync, flush, checkpoint, crash, dirty. */
public final class DurabilityTest {
    private static final Check CHECK = new Check();

    public static void main(String[] args) {
        syncAnswers();
        flushAnswers();
        flushSyncsOnlyForItsPage();
        flushOfACleanPageChangesNothing();
        checkpointAnswers();
        crashAnswers();
        crashEndsTransactions();
        crashKeepsWhatItShall();
        dirtyAnswers();
        dirtyBehindACrash();
        flushBeforePositionsComeAgain();
        CHECK.finish();
    }

    private static void syncAnswers() {
        CHECK.part("promise 6, sync");
        TornBackups x = new TornBackups();
        CHECK.due("sync()", x.sync(), 0);
        x.set(0, 0, 1);
        x.set(1, 0, 1);
        x.abort(1);
        CHECK.due("sync()", x.sync(), 3);
        CHECK.due("sync()", x.sync(), 0);
        x.commit(0);
        CHECK.due("sync()", x.sync(), 1);
        CHECK.due("dirty()", x.dirty(), 1);
        x.crash();
        CHECK.due("the RESTART is synced", x.sync(), 0);
        CHECK.due("get(0)", x.get(0), 1);
    }

    private static void flushAnswers() {
        CHECK.part("promise 7, flush");
        TornBackups x = new TornBackups();
        Steps.put(x, 0, 3, 1);
        Steps.put(x, 0, 4, 1);
        CHECK.due("flush(2)", x.flush(2), 0);
        CHECK.due("flush(0)", x.flush(0), 1);
        CHECK.due("flush(0)", x.flush(0), 0);
        CHECK.due("dirty()", x.dirty(), 1);
        CHECK.due("flush(1)", x.flush(1), 1);
        CHECK.due("dirty()", x.dirty(), 0);
        Steps.put(x, 0, 31, 1);
        CHECK.due("flush(7)", x.flush(7), 1);
        CHECK.due("flush(8)", x.flush(8), TornBackups.BAD);
        for (int number : Steps.WRONG_NUMBERS) {
            CHECK.due("flush(" + number + ")", x.flush(number), TornBackups.BAD);
        }
    }

    private static void flushSyncsOnlyForItsPage() {
        CHECK.part("promise 7, when flush syncs");
        TornBackups x = new TornBackups();
        Steps.put(x, 0, 0, 1);
        x.sync();
        Steps.put(x, 0, 4, 1);
        CHECK.due("flush(0), whose commit is synced", x.flush(0), 1);
        CHECK.due("sync()", x.sync(), 2);
        Steps.put(x, 0, 0, 2);
        x.set(1, 20, 1);
        CHECK.due("flush(1)", x.flush(1), 1);
        CHECK.due("flush(0), whose commit is not", x.flush(0), 1);
        CHECK.due("sync() behind it", x.sync(), 0);
        Steps.put(x, 0, 8, 1);
        x.sync();
        Steps.put(x, 0, 8, 2);
        x.flush(2);
        CHECK.due("first commit synced, last not", x.sync(), 0);
        CHECK.due("crash()", x.crash(), 0);
        CHECK.due("get(8)", x.get(8), 2);
    }

    private static void flushOfACleanPageChangesNothing() {
        CHECK.part("promise 7, a clean page");
        TornBackups x = new TornBackups();
        Steps.put(x, 0, 0, 1);
        CHECK.due("flush(1)", x.flush(1), 0);
        x.set(0, 4, 1);
        CHECK.due("flush(1), its set not committed", x.flush(1), 0);
        CHECK.due("sync()", x.sync(), 3);
    }

    private static void checkpointAnswers() {
        CHECK.part("promise 8, checkpoint");
        TornBackups x = new TornBackups();
        CHECK.due("checkpoint()", x.checkpoint(), 0);
        Steps.put(x, 0, 0, 1);
        Steps.put(x, 0, 31, 1);
        CHECK.due("checkpoint()", x.checkpoint(), 4);
        CHECK.due("dirty()", x.dirty(), 0);
        CHECK.due("sync()", x.sync(), 0);
        x.set(2, 1, 1);
        x.set(0, 1, 1);
        x.set(2, 1, 2);
        x.set(1, 1, 1);
        CHECK.due("three open", x.checkpoint(), 4);
        x.abort(2);
        CHECK.due("two open", x.checkpoint(), 5);
        x.commit(0);
        CHECK.due("one open", x.checkpoint(), 7);
        x.set(0, 1, 1);
        CHECK.due("a younger one", x.checkpoint(), 7);
        x.crash();
        CHECK.due("none is open", x.checkpoint(), 12);
        CHECK.due("position()", x.position(), 12);
        x.set(1, 1, 1);
        CHECK.due("sync of the checkpoint", x.checkpoint(), 12);
        CHECK.due("crash()", x.crash(), 0);
    }

    private static void crashAnswers() {
        CHECK.part("promise 9, crash");
        TornBackups x = new TornBackups();
        CHECK.due("crash()", x.crash(), 0);
        CHECK.due("position()", x.position(), 1);
        Steps.put(x, 0, 0, 1);
        Steps.put(x, 0, 4, 2);
        x.sync();
        Steps.put(x, 0, 0, 3);
        Steps.put(x, 0, 9, 4);
        x.set(0, 0, 5);
        CHECK.due("crash()", x.crash(), 5);
        CHECK.due("get(0)", x.get(0), 1);
        CHECK.due("get(4)", x.get(4), 2);
        CHECK.due("get(9)", x.get(9), 0);
        CHECK.due("position()", x.position(), 6);
        CHECK.due("crash()", x.crash(), 0);
        CHECK.due("position()", x.position(), 7);
        x.set(0, 0, 8);
        x.sync();
        x.commit(0);
        CHECK.due("the commit alone is lost", x.crash(), 1);
        CHECK.due("get(0)", x.get(0), 1);
    }

    private static void crashEndsTransactions() {
        CHECK.part("promise 9, transactions");
        TornBackups x = new TornBackups();
        x.set(0, 0, 1);
        x.sync();
        x.set(1, 0, 2);
        x.crash();
        CHECK.due("commit(0)", x.commit(0), TornBackups.NONE);
        CHECK.due("abort(1)", x.abort(1), TornBackups.NONE);
        x.set(0, 1, 3);
        x.commit(0);
        CHECK.due("get(0)", x.get(0), 0);
        CHECK.due("get(1)", x.get(1), 3);
    }

    private static void crashKeepsWhatItShall() {
        CHECK.part("promise 9, backups, archive, what was restored");
        TornBackups x = new TornBackups();
        for (int i = 0; i < 4; i++) {
            Steps.put(x, 0, 0, 10 + i);
        }
        Steps.wholeBackup(x);
        Steps.archiveAll(x);
        CHECK.due("restore(0, 8)", x.restore(0, 8), 0);
        CHECK.due("backup()", x.backup(), 1);
        x.copy();
        x.crash();
        CHECK.due("the unfinished is gone", x.copy(), TornBackups.NONE);
        CHECK.due("bound(1, 0)", x.bound(1, 0), TornBackups.BAD);
        CHECK.due("bound(0, 1)", x.bound(0, 1), 8);
        CHECK.due("restored(0)", x.restored(0), 13);
        CHECK.due("replayed()", x.replayed(), 0);
        CHECK.due("drop(0)", x.drop(0), true);
        CHECK.due("its number is free", x.backup(), 1);
        CHECK.due("copied from page 0 again", x.copy(), 7);
    }

    private static void dirtyAnswers() {
        CHECK.part("promise 21, dirty");
        TornBackups x = new TornBackups();
        x.set(0, 0, 1);
        x.set(0, 3, 1);
        x.set(0, 4, 1);
        CHECK.due("not committed", x.dirty(), 0);
        x.commit(0);
        CHECK.due("two pages", x.dirty(), 2);
        x.set(1, 31, 1);
        x.abort(1);
        CHECK.due("an abort", x.dirty(), 2);
        x.checkpoint();
        CHECK.due("flushed", x.dirty(), 0);
        Steps.put(x, 0, 0, 1);
        CHECK.due("the same value again", x.dirty(), 1);
        for (int page = 0; page < 8; page++) {
            Steps.put(x, 0, 4 * page + 3, 0);
        }
        CHECK.due("all pages", x.dirty(), 8);
    }

    private static void dirtyBehindACrash() {
        CHECK.part("promise 21, behind a crash");
        TornBackups x = new TornBackups();
        Steps.put(x, 0, 0, 1);
        x.sync();
        Steps.put(x, 0, 0, 2);
        Steps.put(x, 0, 4, 2);
        CHECK.due("dirty()", x.dirty(), 2);
        x.crash();
        CHECK.due("one commit was lost, one not", x.dirty(), 1);
        CHECK.due("flush(1)", x.flush(1), 0);
        CHECK.due("flush(0)", x.flush(0), 1);
        Steps.put(x, 0, 0, 3);
        x.crash();
        CHECK.due("flushed, then lost", x.dirty(), 0);
        CHECK.due("get(0)", x.get(0), 1);
        Steps.put(x, 0, 8, 3);
        x.sync();
        Steps.put(x, 0, 8, 4);
        x.crash();
        x.set(1, 0, 0);
        CHECK.due("flush(2)", x.flush(2), 1);
        CHECK.due("no sync for a lost commit", x.sync(), 1);
    }

    private static void flushBeforePositionsComeAgain() {
        CHECK.part("promise 21, positions that come again");
        TornBackups x = new TornBackups();
        Steps.put(x, 0, 0, 1);
        x.sync();
        for (int i = 0; i < 4; i++) {
            x.set(1, 4, i);
        }
        x.flush(0);
        x.crash();
        Steps.put(x, 0, 0, 2);
        CHECK.due("a commit at a position before the flush", x.dirty(), 1);
        x.flush(0);
        CHECK.due("sync()", x.sync(), 0);
    }
}
