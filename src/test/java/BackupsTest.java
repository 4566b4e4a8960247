/** Promises 10 to 13: backup, copy, forget, bound. */
public final class BackupsTest {
    private static final Check CHECK = new Check();

    public static void main(String[] args) {
        backupNumbers();
        backupBeginsWithACheckpoint();
        refusedBackupMakesNoCheckpoint();
        copyCounts();
        copyTakesTheDisk();
        forgetAnswers();
        boundAnswers();
        boundsOfATornBackup();
        CHECK.finish();
    }

    private static void backupNumbers() {
        CHECK.part("promise 10, numbers");
        TornBackups x = new TornBackups();
        CHECK.due("backup()", x.backup(), 0);
        CHECK.due("one is not finished", x.backup(), TornBackups.BAD);
        Steps.copyPages(x, 7);
        CHECK.due("one page is left", x.backup(), TornBackups.BAD);
        x.copy();
        CHECK.due("backup()", Steps.wholeBackup(x), 1);
        CHECK.due("backup()", x.backup(), 2);
        CHECK.due("BAD before FULL", x.backup(), TornBackups.BAD);
        Steps.copyPages(x, 8);
        CHECK.due("a fourth", x.backup(), TornBackups.FULL);
        x.forget(2);
        x.forget(0);
        CHECK.due("the least free", Steps.wholeBackup(x), 0);
        CHECK.due("the next", Steps.wholeBackup(x), 2);
        CHECK.due("a fourth", x.backup(), TornBackups.FULL);
        x.forget(1);
        CHECK.due("backup()", x.backup(), 1);
        x.crash();
        CHECK.due("a crash frees it", x.backup(), 1);
    }

    private static void backupBeginsWithACheckpoint() {
        CHECK.part("promise 10, the checkpoint");
        TornBackups x = new TornBackups();
        Steps.put(x, 0, 0, 1);
        Steps.put(x, 0, 9, 1);
        CHECK.due("dirty()", x.dirty(), 2);
        x.backup();
        CHECK.due("dirty()", x.dirty(), 0);
        CHECK.due("sync()", x.sync(), 0);
        CHECK.due("position()", x.position(), 4);
    }

    private static void refusedBackupMakesNoCheckpoint() {
        CHECK.part("promise 10, refused");
        TornBackups x = new TornBackups();
        x.backup();
        Steps.put(x, 0, 0, 1);
        CHECK.due("backup()", x.backup(), TornBackups.BAD);
        CHECK.due("dirty()", x.dirty(), 1);
        Steps.copyPages(x, 8);
        Steps.wholeBackup(x);
        Steps.wholeBackup(x);
        Steps.put(x, 0, 0, 1);
        CHECK.due("backup()", x.backup(), TornBackups.FULL);
        CHECK.due("dirty()", x.dirty(), 1);
        CHECK.due("sync()", x.sync(), 2);
    }

    private static void copyCounts() {
        CHECK.part("promise 11, copy");
        TornBackups x = new TornBackups();
        CHECK.due("copy()", x.copy(), TornBackups.NONE);
        for (int number = 0; number < 3; number++) {
            x.backup();
            for (int left = 7; left >= 0; left--) {
                CHECK.due("copy()", x.copy(), left);
            }
            CHECK.due("copy()", x.copy(), TornBackups.NONE);
        }
    }

    private static void copyTakesTheDisk() {
        CHECK.part("promise 11, the disk's page");
        TornBackups x = new TornBackups();
        Steps.put(x, 0, 0, 5);
        Steps.put(x, 0, 31, 6);
        x.backup();
        Steps.put(x, 0, 0, 7);
        Steps.put(x, 0, 31, 8);
        Steps.copyPages(x, 8);
        CHECK.due("start", x.bound(0, 0), 4);
        CHECK.due("end: copy does not sync", x.bound(0, 1), 4);
        CHECK.due("nor flush", x.dirty(), 2);
        CHECK.due("restore(0, 4)", x.restore(0, 4), 0);
        CHECK.due("restored(0): the disk's, not the memory's", x.restored(0), 5);
        CHECK.due("restored(31)", x.restored(31), 6);
        CHECK.due("the commits are not synced yet", x.sync(), 4);
        x.backup();
        Steps.put(x, 0, 0, 9);
        Steps.put(x, 0, 31, 10);
        x.copy();
        x.flush(0);
        x.flush(7);
        Steps.copyPages(x, 7);
        CHECK.due("end: a flush syncs", x.bound(1, 1), 12);
        Steps.fillTo(x, 16);
        Steps.archiveAll(x);
        CHECK.due("restore(1, 12)", x.restore(1, 12), 0);
        CHECK.due("restored(0)", x.restored(0), 9);
        CHECK.due("restored(31)", x.restored(31), 10);
    }

    private static void forgetAnswers() {
        CHECK.part("promise 12, forget");
        TornBackups x = new TornBackups();
        Steps.put(x, 0, 0, 9);
        CHECK.due("forget(0)", x.forget(0), false);
        x.backup();
        CHECK.due("not finished", x.forget(0), false);
        CHECK.due("it goes on", x.copy(), 7);
        Steps.copyPages(x, 7);
        x.restore(0, 2);
        CHECK.due("forget(0)", x.forget(0), true);
        CHECK.due("forget(0)", x.forget(0), false);
        CHECK.due("bound(0, 0)", x.bound(0, 0), TornBackups.BAD);
        CHECK.due("reach(0)", x.reach(0), -1);
        CHECK.due("restore(0, 2)", x.restore(0, 2), TornBackups.BAD);
        CHECK.due("restored(0)", x.restored(0), 9);
        for (int number : Steps.WRONG_NUMBERS) {
            CHECK.due("forget(" + number + ")", x.forget(number), false);
        }
        CHECK.due("forget(3)", x.forget(3), false);
        Steps.wholeBackup(x);
        x.backup();
        CHECK.due("a finished one beside an unfinished", x.forget(0), true);
        CHECK.due("the unfinished goes on", x.copy(), 7);
    }

    private static void boundAnswers() {
        CHECK.part("promise 13, bound");
        TornBackups x = new TornBackups();
        x.set(0, 0, 1);
        x.set(1, 0, 1);
        x.abort(0);
        x.backup();
        CHECK.due("not finished", x.bound(0, 0), TornBackups.BAD);
        CHECK.due("not finished", x.bound(0, 1), TornBackups.BAD);
        Steps.copyPages(x, 8);
        CHECK.due("bound(0, 0)", x.bound(0, 0), 1);
        CHECK.due("bound(0, 1)", x.bound(0, 1), 3);
        CHECK.due("bound(0, 2)", x.bound(0, 2), TornBackups.BAD);
        CHECK.due("bound(1, 0)", x.bound(1, 0), TornBackups.BAD);
        CHECK.due("bound(3, 0)", x.bound(3, 0), TornBackups.BAD);
        for (int number : Steps.WRONG_NUMBERS) {
            CHECK.due("bound(" + number + ", 0)", x.bound(number, 0), TornBackups.BAD);
            CHECK.due("bound(0, " + number + ")", x.bound(0, number), TornBackups.BAD);
        }
        Steps.fillTo(x, 20);
        x.sync();
        CHECK.due("later syncs do not count", x.bound(0, 1), 3);
    }

    private static void boundsOfATornBackup() {
        CHECK.part("promise 13, synced records at the end");
        TornBackups x = new TornBackups();
        x.backup();
        Steps.put(x, 0, 0, 1);
        x.sync();
        Steps.put(x, 0, 0, 1);
        Steps.copyPages(x, 8);
        CHECK.due("start", x.bound(0, 0), 0);
        CHECK.due("end", x.bound(0, 1), 2);
        x.forget(0);
        Steps.wholeBackup(x);
        CHECK.due("start of the next in its place", x.bound(0, 0), 4);
        CHECK.due("end of it", x.bound(0, 1), 4);
    }
}
