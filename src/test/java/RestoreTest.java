/** Promises 16 to 19: restore, restored, replayed, reach. */
public final class RestoreTest {
    private static final Check CHECK = new Check();

    public static void main(String[] args) {
        orderOfTests();
        onTheEdgesOfSegments();
        toTheStartItself();
        tornPages();
        openWhenTheBackupBegan();
        setsBeforeTheStart();
        abortsAndCrashesInTheLog();
        startInAnotherSegment();
        oneRestoreBehindAnother();
        refusedRestoreLeaves();
        wrongNumbers();
        restoredStays();
        replayedCounts();
        reachAnswers();
        reachWithGaps();
        reachToTheEndItself();
        CHECK.finish();
    }

    private static void orderOfTests() {
        CHECK.part("promise 16, order");
        TornBackups x = new TornBackups();
        Steps.put(x, 0, 0, 1);
        x.backup();
        Steps.put(x, 0, 0, 2);
        x.sync();
        CHECK.due("not finished, and early", x.restore(0, 2), TornBackups.BAD);
        Steps.copyPages(x, 8);
        CHECK.due("start 2, end 4: the start is early", x.restore(0, 2), TornBackups.EARLY);
        CHECK.due("BAD before EARLY", x.restore(0, -1), TornBackups.BAD);
        CHECK.due("EARLY before MISSING", x.restore(0, 3), TornBackups.EARLY);
        CHECK.due("MISSING before BETWEEN", x.restore(0, 5), TornBackups.MISSING);
        CHECK.due("MISSING", x.restore(0, 4), TornBackups.MISSING);
        x.set(1, 1, 1);
        Steps.fillTo(x, 8);
        Steps.archiveAll(x);
        CHECK.due("EARLY", x.restore(0, 3), TornBackups.EARLY);
        CHECK.due("BETWEEN, a set", x.restore(0, 5), TornBackups.BETWEEN);
        CHECK.due("BETWEEN, an abort", x.restore(0, 8), TornBackups.BETWEEN);
        CHECK.due("the commit", x.restore(0, 4), 0);
        CHECK.due("restored(0)", x.restored(0), 2);
        CHECK.due("behind the archive", x.restore(0, 9), TornBackups.MISSING);
        CHECK.due("far behind", x.restore(0, Integer.MAX_VALUE), TornBackups.MISSING);
    }

    private static void onTheEdgesOfSegments() {
        CHECK.part("promise 16, segments");
        TornBackups x = new TornBackups();
        Steps.fillTo(x, 7);
        Steps.wholeBackup(x);
        x.set(0, 0, 3);
        Steps.fillTo(x, 15);
        x.commit(0);
        x.set(0, 0, 4);
        x.commit(0);
        Steps.fillTo(x, 24);
        Steps.archiveAll(x);
        CHECK.due("segments 0 and 1", x.restore(0, 16), 0);
        CHECK.due("segment 2 too", x.restore(0, 18), 0);
        x.drop(2);
        CHECK.due("16 does without segment 2", x.restore(0, 16), 0);
        CHECK.due("18 does not", x.restore(0, 18), TornBackups.MISSING);
        x.drop(0);
        CHECK.due("record 7 lies in segment 0", x.restore(0, 16), TornBackups.MISSING);
        CHECK.due("the start needs none", x.restore(0, 7), 0);
        TornBackups y = new TornBackups();
        Steps.fillTo(y, 8);
        Steps.wholeBackup(y);
        y.set(0, 0, 3);
        Steps.fillTo(y, 15);
        y.commit(0);
        Steps.archiveAll(y);
        y.drop(0);
        CHECK.due("record 8 does not", y.restore(0, 16), 0);
        CHECK.due("restored(0)", y.restored(0), 3);
        y.drop(1);
        CHECK.due("16 needs segment 1", y.restore(0, 16), TornBackups.MISSING);
    }

    private static void toTheStartItself() {
        CHECK.part("promise 16, the start");
        TornBackups x = new TornBackups();
        Steps.wholeBackup(x);
        CHECK.due("restore(0, 0)", x.restore(0, 0), 0);
        Steps.put(x, 0, 5, 55);
        x.set(0, 5, 56);
        x.abort(0);
        CHECK.due("backup", Steps.wholeBackup(x), 1);
        CHECK.due("no commit was done at 4", x.restore(1, 4), 0);
        CHECK.due("restored(5)", x.restored(5), 55);
        CHECK.due("replayed()", x.replayed(), 0);
        x.set(0, 5, 57);
        CHECK.due("backup", Steps.wholeBackup(x), 2);
        CHECK.due("start 4, end 5", x.restore(2, 4), TornBackups.EARLY);
        CHECK.due("start 4, end 5", x.restore(2, 5), TornBackups.MISSING);
    }

    private static void tornPages() {
        CHECK.part("promise 16, pages of several times");
        TornBackups x = new TornBackups();
        x.set(0, 0, 1);
        x.set(0, 28, 1);
        x.commit(0);
        x.backup();
        Steps.copyPages(x, 4);
        x.set(0, 0, 2);
        x.set(0, 28, 2);
        x.commit(0);
        x.checkpoint();
        Steps.copyPages(x, 3);
        x.set(0, 0, 3);
        x.set(0, 28, 3);
        x.commit(0);
        x.checkpoint();
        x.copy();
        CHECK.due("start", x.bound(0, 0), 3);
        CHECK.due("end", x.bound(0, 1), 9);
        x.set(0, 0, 4);
        x.commit(0);
        x.set(1, 28, 5);
        x.set(1, 27, 5);
        x.set(1, 27, 6);
        x.set(1, 26, 6);
        x.commit(1);
        Steps.archiveAll(x);
        CHECK.due("restore(0, 9)", x.restore(0, 9), 0);
        CHECK.due("restored(0)", x.restored(0), 3);
        CHECK.due("restored(28)", x.restored(28), 3);
        CHECK.due("restore(0, 16)", x.restore(0, 16), 0);
        CHECK.due("restored(0)", x.restored(0), 4);
        CHECK.due("restored(26)", x.restored(26), 6);
        CHECK.due("restored(27)", x.restored(27), 6);
        CHECK.due("restored(28)", x.restored(28), 5);
        CHECK.due("restore(0, 11)", x.restore(0, 11), 0);
        CHECK.due("restored(0)", x.restored(0), 4);
        CHECK.due("restored(27)", x.restored(27), 0);
        CHECK.due("restored(28)", x.restored(28), 3);
    }

    private static void openWhenTheBackupBegan() {
        CHECK.part("promise 16, open when the backup began");
        TornBackups x = new TornBackups();
        x.set(0, 3, 30);
        x.set(0, 3, 31);
        Steps.wholeBackup(x);
        x.set(0, 4, 40);
        x.commit(0);
        x.set(0, 3, 32);
        Steps.fillTo(x, 8);
        Steps.archiveAll(x);
        CHECK.due("restore(0, 4)", x.restore(0, 4), 0);
        CHECK.due("restored(3)", x.restored(3), 31);
        CHECK.due("restored(4)", x.restored(4), 40);
    }

    /** Transaction 1's set lies before the start, its commit behind another's of the same key. */
    private static void setsBeforeTheStart() {
        CHECK.part("promise 16, sets before the start");
        TornBackups x = new TornBackups();
        x.set(1, 4, 2);
        x.set(0, 9, 1);
        x.set(2, 4, 7);
        x.commit(2);
        x.commit(1);
        CHECK.due("get(4)", x.get(4), 2);
        Steps.wholeBackup(x);
        CHECK.due("start", x.bound(0, 0), 1);
        x.commit(0);
        Steps.fillTo(x, 8);
        Steps.archiveAll(x);
        CHECK.due("restore(0, 6)", x.restore(0, 6), 0);
        CHECK.due("restored(4)", x.restored(4), 2);
        CHECK.due("restored(9)", x.restored(9), 1);
        CHECK.due("replayed()", x.replayed(), 5);
    }

    private static void abortsAndCrashesInTheLog() {
        CHECK.part("promise 16, aborts and crashes");
        TornBackups x = new TornBackups();
        Steps.wholeBackup(x);
        x.set(0, 1, 11);
        x.abort(0);
        x.set(0, 2, 12);
        x.set(1, 3, 13);
        x.sync();
        x.commit(1);
        x.crash();
        x.set(0, 4, 14);
        x.commit(0);
        x.set(1, 5, 15);
        x.commit(1);
        x.set(1, 6, 16);
        x.set(1, 7, 17);
        x.abort(1);
        x.set(1, 8, 18);
        x.commit(1);
        Steps.fillTo(x, 16);
        Steps.archiveAll(x);
        CHECK.due("the RESTART", x.restore(0, 5), TornBackups.BETWEEN);
        CHECK.due("the commit", x.restore(0, 14), 0);
        CHECK.due("aborted", x.restored(1), 0);
        CHECK.due("open at the crash", x.restored(2), 0);
        CHECK.due("its commit was lost", x.restored(3), 0);
        CHECK.due("restored(4)", x.restored(4), 14);
        CHECK.due("restored(5)", x.restored(5), 15);
        CHECK.due("aborted", x.restored(6), 0);
        CHECK.due("aborted", x.restored(7), 0);
        CHECK.due("restored(8)", x.restored(8), 18);
    }

    private static void startInAnotherSegment() {
        CHECK.part("promise 16, start and end in two segments");
        TornBackups x = new TornBackups();
        x.set(0, 0, 1);
        Steps.fillTo(x, 10);
        Steps.wholeBackup(x);
        x.commit(0);
        x.set(0, 0, 2);
        Steps.fillTo(x, 16);
        Steps.archiveAll(x);
        CHECK.due("start", x.bound(0, 0), 0);
        CHECK.due("end", x.bound(0, 1), 10);
        CHECK.due("restore(0, 11)", x.restore(0, 11), 0);
        CHECK.due("restored(0)", x.restored(0), 1);
        x.drop(0);
        CHECK.due("the start's segment is gone", x.restore(0, 11), TornBackups.MISSING);
        CHECK.due("reach(0)", x.reach(0), -1);
    }

    /** The first restore ends while transaction 0 is open: its set must not come into the second. */
    private static void oneRestoreBehindAnother() {
        CHECK.part("promise 16, one restore behind another");
        TornBackups x = new TornBackups();
        Steps.wholeBackup(x);
        x.set(0, 1, 11);
        Steps.put(x, 1, 2, 12);
        x.abort(0);
        Steps.wholeBackup(x);
        Steps.put(x, 0, 3, 13);
        Steps.fillTo(x, 8);
        Steps.archiveAll(x);
        CHECK.due("restore(0, 3)", x.restore(0, 3), 0);
        CHECK.due("restored(1)", x.restored(1), 0);
        CHECK.due("restore(1, 6)", x.restore(1, 6), 0);
        CHECK.due("restored(1)", x.restored(1), 0);
        CHECK.due("restored(2)", x.restored(2), 12);
        CHECK.due("restored(3)", x.restored(3), 13);
        CHECK.due("restore(0, 3)", x.restore(0, 3), 0);
        CHECK.due("restored(3)", x.restored(3), 0);
    }

    private static void refusedRestoreLeaves() {
        CHECK.part("promise 16, refused");
        TornBackups x = new TornBackups();
        Steps.wholeBackup(x);
        for (int i = 1; i <= 3; i++) {
            Steps.put(x, 0, 0, i);
        }
        Steps.fillTo(x, 8);
        Steps.archiveAll(x);
        x.restore(0, 4);
        CHECK.due("BAD", x.restore(1, 6), TornBackups.BAD);
        CHECK.due("MISSING", x.restore(0, 10), TornBackups.MISSING);
        CHECK.due("BETWEEN", x.restore(0, 5), TornBackups.BETWEEN);
        Steps.wholeBackup(x);
        CHECK.due("EARLY", x.restore(1, 6), TornBackups.EARLY);
        CHECK.due("restored(0)", x.restored(0), 2);
        CHECK.due("replayed()", x.replayed(), 4);
    }

    private static void wrongNumbers() {
        CHECK.part("promises 16, 17 and 19, wrong numbers");
        TornBackups x = new TornBackups();
        Steps.put(x, 0, 31, 5);
        Steps.wholeBackup(x);
        x.restore(0, 2);
        for (int number : Steps.WRONG_NUMBERS) {
            CHECK.due("restore(" + number + ", 2)", x.restore(number, 2), TornBackups.BAD);
            CHECK.due("restored(" + number + ")", x.restored(number), 0);
            CHECK.due("reach(" + number + ")", x.reach(number), -1);
        }
        CHECK.due("restore(3, 2)", x.restore(3, 2), TornBackups.BAD);
        CHECK.due("restore(0, min)", x.restore(0, Integer.MIN_VALUE), TornBackups.BAD);
        CHECK.due("reach(3)", x.reach(3), -1);
        CHECK.due("restored(31)", x.restored(31), 5);
    }

    private static void restoredStays() {
        CHECK.part("promise 17, restored");
        TornBackups x = new TornBackups();
        for (int key = 0; key < 32; key++) {
            Steps.put(x, 0, key, 100 + key);
        }
        CHECK.due("nothing restored", x.restored(1), 0);
        Steps.wholeBackup(x);
        CHECK.due("restore(0, 64)", x.restore(0, 64), 0);
        Steps.put(x, 0, 7, -7);
        x.checkpoint();
        x.forget(0);
        Steps.wholeBackup(x);
        x.backup();
        x.copy();
        x.crash();
        for (int key = 0; key < 32; key++) {
            CHECK.due("restored(" + key + ")", x.restored(key), 100 + key);
        }
        CHECK.due("get(7) is not restored", x.get(7), -7);
        CHECK.due("restore of the next", x.restore(0, 66), 0);
        CHECK.due("restored(7)", x.restored(7), -7);
    }

    private static void replayedCounts() {
        CHECK.part("promise 18, replayed");
        TornBackups x = new TornBackups();
        Steps.put(x, 0, 0, 1);
        x.set(1, 1, 1);
        Steps.wholeBackup(x);
        CHECK.due("nothing restored", x.replayed(), 0);
        Steps.put(x, 0, 0, 2);
        x.commit(1);
        Steps.fillTo(x, 8);
        Steps.archiveAll(x);
        x.restore(0, 6);
        CHECK.due("6 less 2", x.replayed(), 4);
        x.restore(0, 5);
        CHECK.due("5 less 2", x.replayed(), 3);
        x.forget(0);
        CHECK.due("forgotten", x.replayed(), 3);
        CHECK.due("backup()", Steps.wholeBackup(x), 0);
        x.restore(0, 8);
        CHECK.due("the start itself", x.replayed(), 0);
    }

    private static void reachAnswers() {
        CHECK.part("promise 19, reach");
        TornBackups x = new TornBackups();
        Steps.put(x, 0, 0, 1);
        CHECK.due("no backup", x.reach(0), -1);
        x.backup();
        CHECK.due("not finished", x.reach(0), -1);
        Steps.copyPages(x, 8);
        CHECK.due("its start", x.reach(0), 2);
        Steps.put(x, 0, 0, 2);
        x.sync();
        CHECK.due("nothing archived", x.reach(0), 2);
        Steps.fillTo(x, 8);
        Steps.archiveAll(x);
        CHECK.due("the last commit", x.reach(0), 4);
        Steps.wholeBackup(x);
        CHECK.due("the start of the second", x.reach(1), 8);
        x.set(0, 0, 3);
        Steps.wholeBackup(x);
        CHECK.due("end behind start, nothing archived", x.reach(2), -1);
        x.commit(0);
        x.set(0, 0, 3);
        Steps.fillTo(x, 15);
        x.commit(0);
        CHECK.due("not archived", x.reach(2), -1);
        Steps.archiveAll(x);
        CHECK.due("the segment's last record", x.reach(0), 16);
        CHECK.due("the segment's last record", x.reach(1), 16);
        CHECK.due("the segment's last record", x.reach(2), 16);
    }

    private static void reachWithGaps() {
        CHECK.part("promise 19, gaps");
        TornBackups x = new TornBackups();
        Steps.wholeBackup(x);
        for (int i = 0; i < 16; i++) {
            Steps.put(x, 0, i, i);
        }
        x.sync();
        x.set(1, 1, 1);
        x.backup();
        Steps.put(x, 0, 0, 9);
        Steps.fillTo(x, 48);
        x.sync();
        Steps.copyPages(x, 8);
        Steps.archiveAll(x);
        CHECK.due("all held", x.reach(0), 35);
        CHECK.due("no commit behind its end", x.reach(1), -1);
        x.drop(3);
        CHECK.due("segment 3 is gone", x.reach(0), 24);
        x.drop(1);
        CHECK.due("segment 1 too", x.reach(0), 8);
        x.drop(0);
        CHECK.due("its start alone", x.reach(0), 0);
    }

    private static void reachToTheEndItself() {
        CHECK.part("promise 19, the end");
        TornBackups x = new TornBackups();
        x.backup();
        Steps.put(x, 0, 0, 1);
        Steps.put(x, 0, 0, 2);
        x.sync();
        Steps.copyPages(x, 8);
        Steps.fillTo(x, 8);
        Steps.archiveAll(x);
        CHECK.due("start", x.bound(0, 0), 0);
        CHECK.due("end", x.bound(0, 1), 4);
        CHECK.due("a commit was done at the end", x.reach(0), 4);
        CHECK.due("one before it is early", x.restore(0, 2), TornBackups.EARLY);
    }
}
