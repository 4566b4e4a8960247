/** Promises 10 to 15: a test of its own for each sentence with an edge. */
public final class BackupEdgesTest {
    private static final Check CHECK = new Check();
    private static final int BAD = TornBackups.BAD;
    private static final int FULL = TornBackups.FULL;
    private static final int NONE = TornBackups.NONE;
    private static final int LEAST = Integer.MIN_VALUE;
    private static final int GREATEST = Integer.MAX_VALUE;
    private static final int[] NO_BACKUPS = {-1, 3, 4, LEAST, GREATEST};

    public static void main(String[] args) {
        backupByACheckpoint();
        backupLeastFree();
        backupAlsoOfOneForgotten();
        backupKeepsNothingOfOneForgotten();
        backupBadWhenNotFinished();
        backupBadFirst();
        backupFull();
        backupRefusedMakesNoCheckpoint();
        copyNextPageOfTheDisk();
        copyPagesLeft();
        copyNone();
        forgetTrue();
        forgetLeavesWhatWasRestored();
        forgetFalse();
        boundStart();
        boundEnd();
        boundBadBackup();
        boundBadWhich();
        archiveFromZero();
        archiveAboveTheGreatestEver();
        archiveNone();
        archiveNoneSyncsNothing();
        archiveFull();
        archiveFullAfterNone();
        dropTrue();
        dropFalse();
        CHECK.finish();
    }

    private static void backupByACheckpoint() {
        CHECK.part("promise 10, Begins a backup (by a checkpoint)");
        TornBackups x = new TornBackups();
        putOnEachPage(x, 1);
        x.set(1, 0, 1);
        x.backup();
        CHECK.due("dirty()", x.dirty(), 0);
        CHECK.due("sync()", x.sync(), 0);
        CHECK.due("no record", x.position(), 17);
        CHECK.due("the transaction is open still", x.commit(1), 18);
    }

    private static void backupLeastFree() {
        CHECK.part("promise 10, its number, the least that is free");
        TornBackups x = new TornBackups();
        CHECK.due("none is there", Steps.wholeBackup(x), 0);
        CHECK.due("0 is there", Steps.wholeBackup(x), 1);
        CHECK.due("0 and 1 are there", Steps.wholeBackup(x), 2);
    }

    private static void backupAlsoOfOneForgotten() {
        CHECK.part("promise 10, (also of one forgotten)");
        for (int first = 0; first < 3; first++) {
            for (int second = 0; second < 3; second++) {
                TornBackups x = threeFinished();
                x.forget(first);
                x.forget(second);
                CHECK.due("backup()", Steps.wholeBackup(x), Math.min(first, second));
                CHECK.due("backup()", x.backup(), first == second ? FULL : Math.max(first, second));
            }
        }
        TornBackups y = threeFinished();
        y.forget(1);
        y.backup();
        y.crash();
        CHECK.due("of one that a crash ended", y.backup(), 1);
    }

    private static void backupKeepsNothingOfOneForgotten() {
        CHECK.part("promise 10, a forgotten one's number with pages and bounds of its own");
        TornBackups x = new TornBackups();
        putOnEachPage(x, 1);
        Steps.wholeBackup(x);
        x.forget(0);
        putOnEachPage(x, 2);
        CHECK.due("backup()", Steps.wholeBackup(x), 0);
        CHECK.due("start", x.bound(0, 0), 32);
        CHECK.due("end", x.bound(0, 1), 32);
        CHECK.due("restore(0, 16)", x.restore(0, 16), TornBackups.EARLY);
        CHECK.due("restore(0, 32)", x.restore(0, 32), 0);
        for (int page = 0; page < 8; page++) {
            CHECK.due("page " + page, x.restored(4 * page), 2);
        }
    }

    private static void putOnEachPage(TornBackups x, int value) {
        for (int page = 0; page < 8; page++) {
            Steps.put(x, 0, 4 * page, value);
        }
    }

    private static TornBackups threeFinished() {
        TornBackups x = new TornBackups();
        for (int i = 0; i < 3; i++) {
            Steps.wholeBackup(x);
        }
        return x;
    }

    private static void backupBadWhenNotFinished() {
        CHECK.part("promise 10, BAD when one is not finished");
        TornBackups x = new TornBackups();
        x.backup();
        for (int copied = 0; copied < 8; copied++) {
            CHECK.due(copied + " pages copied", x.backup(), BAD);
            x.copy();
        }
        CHECK.due("finished", x.backup(), 1);
        x.crash();
        CHECK.due("gone by a crash", x.backup(), 1);
    }

    private static void backupBadFirst() {
        CHECK.part("promise 10, BAD, first; FULL when there are 3");
        TornBackups x = threeFinished();
        x.forget(0);
        CHECK.due("backup()", x.backup(), 0);
        CHECK.due("three are there, one not finished", x.backup(), BAD);
        Steps.copyPages(x, 7);
        CHECK.due("one page is left", x.backup(), BAD);
        x.copy();
        CHECK.due("three are finished", x.backup(), FULL);
    }

    private static void backupFull() {
        CHECK.part("promise 10, FULL when there are 3");
        TornBackups x = new TornBackups();
        Steps.wholeBackup(x);
        Steps.wholeBackup(x);
        CHECK.due("there are 2", Steps.wholeBackup(x), 2);
        CHECK.due("there are 3", x.backup(), FULL);
        CHECK.due("still 3", x.backup(), FULL);
        CHECK.due("nothing begun", x.copy(), NONE);
        x.crash();
        CHECK.due("a crash takes none", x.backup(), FULL);
        x.forget(2);
        CHECK.due("there are 2", x.backup(), 2);
    }

    private static void backupRefusedMakesNoCheckpoint() {
        CHECK.part("promise 10, a refused backup makes no checkpoint");
        TornBackups x = threeFinished();
        Steps.put(x, 0, 0, 1);
        CHECK.due("backup()", x.backup(), FULL);
        CHECK.due("dirty()", x.dirty(), 1);
        CHECK.due("sync()", x.sync(), 2);
        x.forget(0);
        x.backup();
        Steps.put(x, 0, 0, 2);
        CHECK.due("backup()", x.backup(), BAD);
        CHECK.due("dirty()", x.dirty(), 1);
        CHECK.due("sync()", x.sync(), 2);
        CHECK.due("the one begun goes on", x.copy(), 7);
    }

    private static void copyNextPageOfTheDisk() {
        CHECK.part("promise 11, Copies the next page (as the disk has it now) of the backup that is not finished");
        for (int page = 0; page < 8; page++) {
            TornBackups x = new TornBackups();
            Steps.put(x, 0, 4 * page + 1, 5);
            x.backup();
            Steps.copyPages(x, page);
            Steps.put(x, 0, 4 * page + 1, 6);
            Steps.copyPages(x, 8 - page);
            CHECK.due("it flushes nothing", x.dirty(), 1);
            CHECK.due("it syncs nothing", x.sync(), 2);
            CHECK.due("restore(0, 2)", x.restore(0, 2), 0);
            CHECK.due("page " + page + " of the disk, not the memory", x.restored(4 * page + 1), 5);
        }
    }

    private static void copyPagesLeft() {
        CHECK.part("promise 11, how many pages are left to be copied (0: it is finished)");
        TornBackups x = new TornBackups();
        for (int number = 0; number < 3; number++) {
            x.backup();
            for (int left = 7; left >= 0; left--) {
                CHECK.due("bound before", x.bound(number, 0), BAD);
                CHECK.due("copy()", x.copy(), left);
            }
            CHECK.due("bound behind", x.bound(number, 0), 0);
        }
    }

    private static void copyNone() {
        CHECK.part("promise 11, NONE when there is no such backup");
        TornBackups x = new TornBackups();
        CHECK.due("none was begun", x.copy(), NONE);
        Steps.wholeBackup(x);
        CHECK.due("it is finished", x.copy(), NONE);
        x.forget(0);
        CHECK.due("it is forgotten", x.copy(), NONE);
        x.backup();
        x.crash();
        CHECK.due("it is gone by a crash", x.copy(), NONE);
        x.backup();
        CHECK.due("one was begun", x.copy(), 7);
    }

    private static void forgetTrue() {
        CHECK.part("promise 12, Takes a finished backup away: true");
        for (int number = 0; number < 3; number++) {
            TornBackups x = threeFinished();
            CHECK.due("forget(" + number + ")", x.forget(number), true);
            for (int other = 0; other < 3; other++) {
                int want = other == number ? BAD : 0;
                CHECK.due("bound(" + other + ", 0)", x.bound(other, 0), want);
                CHECK.due("restore(" + other + ", 0)", x.restore(other, 0), want);
                CHECK.due("reach(" + other + ")", x.reach(other), other == number ? -1 : 0);
            }
        }
    }

    private static void forgetLeavesWhatWasRestored() {
        CHECK.part("promise 12, (what was restored from it stays)");
        TornBackups x = new TornBackups();
        Steps.wholeBackup(x);
        for (int i = 0; i < 4; i++) {
            Steps.put(x, 0, i, 10 + i);
        }
        Steps.archiveAll(x);
        x.restore(0, 6);
        x.forget(0);
        CHECK.due("restored(2)", x.restored(2), 12);
        CHECK.due("restored(3)", x.restored(3), 0);
        CHECK.due("replayed()", x.replayed(), 6);
        Steps.wholeBackup(x);
        CHECK.due("another with its number", x.restored(3), 0);
        CHECK.due("replayed()", x.replayed(), 6);
    }

    private static void forgetFalse() {
        CHECK.part("promise 12, false when there is none finished with that number");
        TornBackups x = threeFinished();
        for (int number : NO_BACKUPS) {
            CHECK.due("forget(" + number + ")", x.forget(number), false);
        }
        CHECK.due("all are there", x.backup(), FULL);
        x.forget(1);
        CHECK.due("forgotten", x.forget(1), false);
        x.backup();
        CHECK.due("begun", x.forget(1), false);
        Steps.copyPages(x, 7);
        CHECK.due("one page is left", x.forget(1), false);
        CHECK.due("it goes on", x.copy(), 0);
        CHECK.due("finished", x.forget(1), true);
        CHECK.due("never begun", new TornBackups().forget(0), false);
    }

    private static void boundStart() {
        CHECK.part("promise 13, The start (which = 0) of a finished backup");
        TornBackups x = new TornBackups();
        Steps.wholeBackup(x);
        CHECK.due("an empty log", x.bound(0, 0), 0);
        Steps.put(x, 0, 0, 1);
        Steps.wholeBackup(x);
        CHECK.due("none is open", x.bound(1, 0), 2);
        x.set(2, 0, 1);
        x.set(0, 0, 1);
        Steps.wholeBackup(x);
        CHECK.due("two are open", x.bound(2, 0), 2);
        CHECK.due("the first stays", x.bound(0, 0), 0);
        x.forget(0);
        x.abort(2);
        Steps.wholeBackup(x);
        CHECK.due("one is open", x.bound(0, 0), 3);
    }

    private static void boundEnd() {
        CHECK.part("promise 13, or the end (1)");
        TornBackups x = new TornBackups();
        Steps.wholeBackup(x);
        CHECK.due("an empty log", x.bound(0, 1), 0);
        x.set(0, 0, 1);
        x.set(0, 0, 1);
        x.backup();
        x.set(0, 0, 1);
        Steps.copyPages(x, 8);
        CHECK.due("the checkpoint's", x.bound(1, 1), 2);
        x.backup();
        x.set(0, 0, 1);
        Steps.copyPages(x, 7);
        x.sync();
        x.commit(0);
        x.copy();
        CHECK.due("synced before page 7", x.bound(2, 1), 4);
        x.sync();
        x.crash();
        CHECK.due("it stays", x.bound(2, 1), 4);
        CHECK.due("the second's", x.bound(1, 1), 2);
    }

    private static void boundBadBackup() {
        CHECK.part("promise 13, BAD when there is none");
        TornBackups x = threeFinished();
        for (int number : NO_BACKUPS) {
            CHECK.due("bound(" + number + ", 0)", x.bound(number, 0), BAD);
            CHECK.due("bound(" + number + ", 1)", x.bound(number, 1), BAD);
        }
        x.forget(2);
        CHECK.due("forgotten", x.bound(2, 0), BAD);
        x.backup();
        Steps.copyPages(x, 7);
        CHECK.due("not finished", x.bound(2, 0), BAD);
        CHECK.due("not finished", x.bound(2, 1), BAD);
        x.copy();
        CHECK.due("finished", x.bound(2, 1), 0);
    }

    private static void boundBadWhich() {
        CHECK.part("promise 13, or which is not 0 or 1");
        TornBackups x = threeFinished();
        int[] noBounds = {-1, 2, 3, LEAST, GREATEST};
        for (int number = 0; number < 3; number++) {
            for (int which : noBounds) {
                CHECK.due("bound(" + number + ", " + which + ")", x.bound(number, which), BAD);
            }
            CHECK.due("bound(" + number + ", 0)", x.bound(number, 0), 0);
            CHECK.due("bound(" + number + ", 1)", x.bound(number, 1), 0);
        }
    }

    private static void archiveFromZero() {
        CHECK.part("promise 14, (0 at first). Answers its number");
        TornBackups x = withSynced(24);
        CHECK.due("archive()", x.archive(), 0);
        CHECK.due("archive()", x.archive(), 1);
        CHECK.due("archive()", x.archive(), 2);
        CHECK.due("archive()", x.archive(), NONE);
    }

    private static TornBackups withSynced(int records) {
        TornBackups x = new TornBackups();
        Steps.fillTo(x, records);
        x.sync();
        return x;
    }

    private static void archiveAboveTheGreatestEver() {
        CHECK.part("promise 14, the least one above the greatest that was ever archived, held still or not");
        TornBackups x = withSynced(48);
        x.archive();
        x.archive();
        x.drop(0);
        CHECK.due("1 is held", x.archive(), 2);
        x.drop(2);
        CHECK.due("the greatest is not held", x.archive(), 3);
        x.drop(1);
        x.drop(3);
        CHECK.due("none is held", x.archive(), 4);
        CHECK.due("archive()", x.archive(), 5);
        CHECK.due("0 was dropped and is not archived again", x.drop(0), false);
    }

    private static void archiveNone() {
        CHECK.part("promise 14, NONE when not all of its records are synced");
        CHECK.due("an empty log", new TornBackups().archive(), NONE);
        TornBackups x = withSynced(7);
        CHECK.due("7 are synced", x.archive(), NONE);
        x.set(0, 0, 1);
        CHECK.due("the 8th is not", x.archive(), NONE);
        x.set(0, 0, 1);
        CHECK.due("nor the 9th", x.archive(), NONE);
        x.sync();
        CHECK.due("all are", x.archive(), 0);
        TornBackups y = withSynced(8);
        CHECK.due("just 8", y.archive(), 0);
        CHECK.due("segment 1 has none", y.archive(), NONE);
    }

    private static void archiveNoneSyncsNothing() {
        CHECK.part("promise 14, a refused archive syncs nothing and goes no further");
        TornBackups x = new TornBackups();
        Steps.fillTo(x, 8);
        CHECK.due("archive()", x.archive(), NONE);
        CHECK.due("sync()", x.sync(), 8);
        CHECK.due("archive()", x.archive(), 0);
    }

    private static void archiveFull() {
        CHECK.part("promise 14, FULL when 10 are held");
        TornBackups x = withSynced(112);
        for (int segment = 0; segment < 10; segment++) {
            CHECK.due("archive()", x.archive(), segment);
        }
        CHECK.due("10 are held", x.archive(), FULL);
        CHECK.due("still", x.archive(), FULL);
        CHECK.due("the refused one is not held", x.drop(10), false);
        x.drop(9);
        CHECK.due("9 are held", x.archive(), 10);
        CHECK.due("10 are held", x.archive(), FULL);
        x.drop(0);
        x.drop(10);
        CHECK.due("8 are held", x.archive(), 11);
        CHECK.due("9 are held", x.archive(), 12);
        CHECK.due("10 are held", x.archive(), FULL);
        x.drop(9);
        CHECK.due("a drop that took nothing", x.archive(), FULL);
    }

    private static void archiveFullAfterNone() {
        CHECK.part("promise 14, (tested after NONE)");
        TornBackups x = withSynced(80);
        for (int segment = 0; segment < 10; segment++) {
            x.archive();
        }
        CHECK.due("10 held, segment 10 empty", x.archive(), NONE);
        Steps.fillTo(x, 87);
        x.sync();
        CHECK.due("10 held, 7 records of it", x.archive(), NONE);
        x.set(0, 0, 1);
        CHECK.due("10 held, the 8th not synced", x.archive(), NONE);
        x.sync();
        CHECK.due("10 held, all synced", x.archive(), FULL);
    }

    private static void dropTrue() {
        CHECK.part("promise 15, Takes a segment out of the archive: true");
        TornBackups x = withSynced(80);
        for (int segment = 0; segment < 10; segment++) {
            x.archive();
        }
        for (int segment = 9; segment >= 0; segment--) {
            CHECK.due("drop(" + segment + ")", x.drop(segment), true);
        }
        for (int segment = 0; segment < 10; segment++) {
            CHECK.due("drop(" + segment + ")", x.drop(segment), false);
        }
    }

    private static void dropFalse() {
        CHECK.part("promise 15, false when it is not held");
        TornBackups x = withSynced(24);
        CHECK.due("an empty archive", x.drop(0), false);
        x.archive();
        x.archive();
        CHECK.due("not archived yet", x.drop(2), false);
        int[] noSegments = {-1, 10, 63, 64, 65, 1000, LEAST, GREATEST};
        for (int segment : noSegments) {
            CHECK.due("drop(" + segment + ")", x.drop(segment), false);
        }
        CHECK.due("drop(0)", x.drop(0), true);
        CHECK.due("dropped", x.drop(0), false);
        CHECK.due("the other is held", x.drop(1), true);
    }
}
