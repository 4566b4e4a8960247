/** Promises 16 to 19: a test of its own for each sentence with an edge. */
public final class RestoreEdgesTest {
    private static final Check CHECK = new Check();
    private static final int BAD = TornBackups.BAD;
    private static final int EARLY = TornBackups.EARLY;
    private static final int BETWEEN = TornBackups.BETWEEN;
    private static final int MISSING = TornBackups.MISSING;
    private static final int LEAST = Integer.MIN_VALUE;
    private static final int GREATEST = Integer.MAX_VALUE;
    private static final int[] NO_BACKUPS = {-1, 3, 4, LEAST, GREATEST};
    private static final int[] NO_KEYS = {-1, 32, 33, LEAST, GREATEST};

    public static void main(String[] args) {
        badBackup();
        badPosition();
        early();
        missingAboveTheStart();
        missingFirstSegment();
        missingSegmentOfTheStart();
        missingLastSegment();
        missingMiddleSegment();
        missingNotWhole();
        missingFarBehind();
        between();
        betweenNotTheStart();
        betweenAtTheEnd();
        badBeforeEarly();
        badBeforeMissing();
        badBeforeBetween();
        earlyBeforeMissing();
        earlyBeforeBetween();
        missingBeforeBetween();
        refusedLeavesWhatWasRestored();
        commitsBeforeTheCheckpoint();
        setsOnBothSidesOfTheCheckpoint();
        recordsThatUndo();
        abortOfOneAlone();
        setsLeftByAnEarlierRestore();
        restoredByTheLatest();
        restoredNothing();
        restoredNoSuchKey();
        replayedPositionLessStart();
        replayedNothing();
        reachGreatest();
        reachOnASegmentsEdge();
        reachBeforeAGap();
        reachTheStart();
        reachTheEnd();
        reachNone();
        reachNoBackup();
        reachIsTheLastThatRestores();
        CHECK.finish();
    }

    /** A finished backup 0 of an empty store (start 0, end 0), then commits at 2, 4, .. of key 0 to 1, 2, .. */
    private static TornBackups withCommits(int count) {
        TornBackups x = new TornBackups();
        Steps.wholeBackup(x);
        for (int i = 1; i <= count; i++) {
            Steps.put(x, 0, 0, i);
        }
        return x;
    }

    /** Start 2, end 6, commits at 2, 4, 6, 8; 8 synced records, of which none is archived. */
    private static TornBackups torn() {
        TornBackups x = new TornBackups();
        Steps.put(x, 0, 0, 1);
        x.backup();
        Steps.put(x, 0, 0, 2);
        Steps.put(x, 0, 0, 3);
        x.sync();
        Steps.copyPages(x, 8);
        Steps.put(x, 0, 0, 4);
        x.sync();
        return x;
    }

    private static void badBackup() {
        CHECK.part("promise 16, BAD, no finished backup with that number");
        TornBackups x = withCommits(4);
        Steps.archiveAll(x);
        for (int number : NO_BACKUPS) {
            CHECK.due("restore(" + number + ", 8)", x.restore(number, 8), BAD);
        }
        CHECK.due("never begun", x.restore(1, 8), BAD);
        x.backup();
        CHECK.due("begun", x.restore(1, 8), BAD);
        Steps.copyPages(x, 7);
        CHECK.due("one page is left", x.restore(1, 8), BAD);
        x.copy();
        CHECK.due("finished", x.restore(1, 8), 0);
        x.forget(1);
        CHECK.due("forgotten", x.restore(1, 8), BAD);
        x.backup();
        x.crash();
        CHECK.due("gone by a crash", x.restore(1, 8), BAD);
    }

    private static void badPosition() {
        CHECK.part("promise 16, or position is below 0");
        TornBackups x = withCommits(4);
        CHECK.due("restore(0, -1)", x.restore(0, -1), BAD);
        CHECK.due("restore(0, least)", x.restore(0, LEAST), BAD);
        CHECK.due("restore(0, 0)", x.restore(0, 0), 0);
    }

    private static void early() {
        CHECK.part("promise 16, EARLY, it is less than the backup's end");
        TornBackups x = torn();
        x.archive();
        for (int position = 0; position < 6; position++) {
            CHECK.due("restore(0, " + position + ")", x.restore(0, position), EARLY);
        }
        CHECK.due("the end", x.restore(0, 6), 0);
        CHECK.due("restored(0)", x.restored(0), 3);
        CHECK.due("behind the end", x.restore(0, 8), 0);
        CHECK.due("restored(0)", x.restored(0), 4);
    }

    private static void missingAboveTheStart() {
        CHECK.part("promise 16, MISSING, it is greater than the backup's start");
        TornBackups x = new TornBackups();
        Steps.put(x, 0, 0, 1);
        Steps.wholeBackup(x);
        CHECK.due("the start needs no segment", x.restore(0, 2), 0);
        CHECK.due("restored(0)", x.restored(0), 1);
        CHECK.due("one more does", x.restore(0, 3), MISSING);
    }

    private static void missingFirstSegment() {
        CHECK.part("promise 16, one of the segments that hold the records from its start");
        for (int start = 7; start <= 9; start++) {
            TornBackups x = new TornBackups();
            Steps.fillTo(x, start);
            Steps.wholeBackup(x);
            Steps.put(x, 0, 0, 5);
            Steps.fillTo(x, 16);
            Steps.archiveAll(x);
            CHECK.due("all held, start " + start, x.restore(0, start + 2), 0);
            x.drop(0);
            CHECK.due("segment 0 dropped, start " + start, x.restore(0, start + 2), start == 7 ? MISSING : 0);
            CHECK.due("restored(0)", x.restored(0), 5);
            x.drop(1);
            CHECK.due("segment 1 dropped, start " + start, x.restore(0, start + 2), MISSING);
            CHECK.due("its start", x.restore(0, start), 0);
        }
    }

    private static void missingSegmentOfTheStart() {
        CHECK.part("promise 16, from its start, not from its end");
        TornBackups x = new TornBackups();
        x.set(0, 0, 1);
        Steps.fillTo(x, 10);
        Steps.wholeBackup(x);
        CHECK.due("start", x.bound(0, 0), 0);
        CHECK.due("end", x.bound(0, 1), 10);
        x.commit(0);
        Steps.fillTo(x, 16);
        Steps.archiveAll(x);
        CHECK.due("both held", x.restore(0, 11), 0);
        CHECK.due("both held", x.reach(0), 11);
        x.drop(0);
        CHECK.due("the start's segment dropped", x.restore(0, 11), MISSING);
        CHECK.due("the start's segment dropped", x.reach(0), -1);
    }

    private static void missingLastSegment() {
        CHECK.part("promise 16, to position - 1");
        TornBackups x = withCommits(12);
        x.sync();
        x.archive();
        CHECK.due("record 7 is the last of segment 0", x.restore(0, 8), 0);
        CHECK.due("restored(0)", x.restored(0), 4);
        CHECK.due("record 9 lies in segment 1", x.restore(0, 10), MISSING);
        x.archive();
        CHECK.due("segment 1 is held", x.restore(0, 10), 0);
        CHECK.due("its last record", x.restore(0, 16), 0);
        CHECK.due("restored(0)", x.restored(0), 8);
        CHECK.due("record 16 lies in segment 2", x.restore(0, 17), MISSING);
    }

    private static void missingMiddleSegment() {
        CHECK.part("promise 16, one of the segments is not held by the archive");
        for (int dropped = 0; dropped < 3; dropped++) {
            TornBackups x = withCommits(12);
            Steps.archiveAll(x);
            CHECK.due("all three held", x.restore(0, 24), 0);
            x.drop(dropped);
            CHECK.due("segment " + dropped + " dropped", x.restore(0, 24), MISSING);
            CHECK.due("to 8", x.restore(0, 8), dropped == 0 ? MISSING : 0);
            CHECK.due("to 16", x.restore(0, 16), dropped <= 1 ? MISSING : 0);
        }
    }

    private static void missingNotWhole() {
        CHECK.part("promise 16, (whole ones alone are archived)");
        TornBackups x = withCommits(3);
        x.sync();
        CHECK.due("archive()", x.archive(), TornBackups.NONE);
        CHECK.due("all synced, no whole segment", x.restore(0, 6), MISSING);
        Steps.put(x, 0, 0, 4);
        x.sync();
        CHECK.due("a whole one, not archived", x.restore(0, 6), MISSING);
        x.archive();
        CHECK.due("archived", x.restore(0, 6), 0);
    }

    private static void missingFarBehind() {
        CHECK.part("promise 16, MISSING, a position that the log does not have");
        TornBackups x = withCommits(4);
        Steps.archiveAll(x);
        CHECK.due("the last position", x.restore(0, 8), 0);
        int[] positions = {9, 15, 16, 17, 511, 512, 513, 520, 1 << 16, GREATEST - 7, GREATEST - 1, GREATEST};
        for (int position : positions) {
            CHECK.due("restore(0, " + position + ")", x.restore(0, position), MISSING);
        }
    }

    private static void between() {
        CHECK.part("promise 16, BETWEEN, position is neither the backup's start nor one at which a commit was done");
        TornBackups x = new TornBackups();
        Steps.wholeBackup(x);
        x.set(0, 0, 1);
        x.commit(0);
        x.set(1, 0, 2);
        x.abort(1);
        x.sync();
        x.crash();
        x.set(2, 0, 3);
        x.set(2, 0, 4);
        x.commit(2);
        Steps.archiveAll(x);
        int[] due = {0, BETWEEN, 0, BETWEEN, BETWEEN, BETWEEN, BETWEEN, BETWEEN, 0};
        String[] kinds = {"the start", "a SET", "a COMMIT", "a SET", "an ABORT", "a RESTART", "a SET", "a SET", "a COMMIT"};
        for (int position = 0; position <= 8; position++) {
            CHECK.due("restore(0, " + position + "), " + kinds[position], x.restore(0, position), due[position]);
        }
    }

    private static void betweenNotTheStart() {
        CHECK.part("promise 16, the backup's start: its own, not another's");
        TornBackups x = new TornBackups();
        Steps.wholeBackup(x);
        x.set(0, 0, 1);
        x.abort(0);
        Steps.wholeBackup(x);
        Steps.fillTo(x, 8);
        Steps.archiveAll(x);
        CHECK.due("its own", x.restore(1, 2), 0);
        CHECK.due("another's", x.restore(0, 2), BETWEEN);
        CHECK.due("its own", x.restore(0, 0), 0);
    }

    private static void betweenAtTheEnd() {
        CHECK.part("promise 16, BETWEEN, also at the backup's end");
        TornBackups x = new TornBackups();
        x.backup();
        Steps.put(x, 0, 0, 1);
        x.set(0, 0, 2);
        x.sync();
        Steps.copyPages(x, 8);
        x.commit(0);
        Steps.fillTo(x, 8);
        Steps.archiveAll(x);
        CHECK.due("end", x.bound(0, 1), 3);
        CHECK.due("a SET is before it", x.restore(0, 3), BETWEEN);
        CHECK.due("the COMMIT behind it", x.restore(0, 4), 0);
    }

    private static void badBeforeEarly() {
        CHECK.part("promise 16, BAD is tested before EARLY");
        TornBackups x = torn();
        CHECK.due("below 0 and below the end", x.restore(0, -1), BAD);
        x.backup();
        Steps.copyPages(x, 7);
        CHECK.due("not finished, before its start", x.restore(1, 0), BAD);
        CHECK.due("none, position 0", x.restore(2, 0), BAD);
    }

    private static void badBeforeMissing() {
        CHECK.part("promise 16, BAD is tested before MISSING");
        TornBackups x = torn();
        CHECK.due("no backup, nothing archived", x.restore(1, 8), BAD);
        CHECK.due("no backup, far behind", x.restore(3, GREATEST), BAD);
    }

    private static void badBeforeBetween() {
        CHECK.part("promise 16, BAD is tested before BETWEEN");
        TornBackups x = torn();
        x.archive();
        CHECK.due("no backup, no commit at 7", x.restore(1, 7), BAD);
    }

    private static void earlyBeforeMissing() {
        CHECK.part("promise 16, EARLY is tested before MISSING");
        TornBackups x = torn();
        CHECK.due("a commit above the start, nothing archived", x.restore(0, 4), EARLY);
        CHECK.due("the last before the end", x.restore(0, 5), EARLY);
        CHECK.due("the end, nothing archived", x.restore(0, 6), MISSING);
    }

    private static void earlyBeforeBetween() {
        CHECK.part("promise 16, EARLY is tested before BETWEEN");
        TornBackups x = torn();
        x.archive();
        CHECK.due("no commit at 5", x.restore(0, 5), EARLY);
        CHECK.due("the start itself", x.restore(0, 2), EARLY);
        CHECK.due("below the start", x.restore(0, 1), EARLY);
        CHECK.due("no commit at 7", x.restore(0, 7), BETWEEN);
    }

    private static void missingBeforeBetween() {
        CHECK.part("promise 16, MISSING is tested before BETWEEN");
        TornBackups x = torn();
        CHECK.due("no commit at 7, nothing archived", x.restore(0, 7), MISSING);
        x.archive();
        CHECK.due("no commit at 7, archived", x.restore(0, 7), BETWEEN);
        x.drop(0);
        CHECK.due("no commit at 7, dropped", x.restore(0, 7), MISSING);
        CHECK.due("behind the log", x.restore(0, 9), MISSING);
    }

    private static void refusedLeavesWhatWasRestored() {
        CHECK.part("promise 16, A call that answers below 0 leaves what was restored");
        TornBackups x = torn();
        x.archive();
        x.restore(0, 6);
        CHECK.due("BAD", x.restore(1, 8), BAD);
        seeTheSame(x);
        CHECK.due("BAD", x.restore(0, -1), BAD);
        seeTheSame(x);
        CHECK.due("EARLY", x.restore(0, 4), EARLY);
        seeTheSame(x);
        CHECK.due("BETWEEN", x.restore(0, 7), BETWEEN);
        seeTheSame(x);
        CHECK.due("MISSING", x.restore(0, 9), MISSING);
        seeTheSame(x);
        x.drop(0);
        CHECK.due("MISSING", x.restore(0, 8), MISSING);
        seeTheSame(x);
    }

    private static void seeTheSame(TornBackups x) {
        CHECK.due("restored(0)", x.restored(0), 3);
        CHECK.due("replayed()", x.replayed(), 4);
    }

    /** The start lies before commits that are in the backup's pages: only a part of their sets lies behind it. */
    private static void commitsBeforeTheCheckpoint() {
        CHECK.part("promise 16, commits between the start and the checkpoint");
        TornBackups x = new TornBackups();
        x.set(1, 4, 2);
        x.set(1, 5, 2);
        x.set(0, 9, 1);
        x.set(1, 5, 3);
        x.set(2, 4, 7);
        x.commit(2);
        x.commit(1);
        Steps.wholeBackup(x);
        CHECK.due("start", x.bound(0, 0), 2);
        CHECK.due("commit(0)", x.commit(0), 8);
        Steps.archiveAll(x);
        CHECK.due("restore(0, 8)", x.restore(0, 8), 0);
        CHECK.due("restored(4)", x.restored(4), 2);
        CHECK.due("restored(5)", x.restored(5), 3);
        CHECK.due("restored(9)", x.restored(9), 1);
    }

    private static void setsOnBothSidesOfTheCheckpoint() {
        CHECK.part("promise 16, a transaction that is open when the backup begins, and when it ends");
        TornBackups x = new TornBackups();
        x.set(0, 0, 1);
        x.set(0, 4, 1);
        x.backup();
        Steps.copyPages(x, 4);
        x.set(0, 0, 2);
        Steps.copyPages(x, 4);
        x.set(0, 31, 3);
        CHECK.due("commit(0)", x.commit(0), 5);
        Steps.fillTo(x, 8);
        Steps.archiveAll(x);
        CHECK.due("restore(0, 5)", x.restore(0, 5), 0);
        CHECK.due("restored(0)", x.restored(0), 2);
        CHECK.due("restored(4)", x.restored(4), 1);
        CHECK.due("restored(31)", x.restored(31), 3);
    }

    private static void recordsThatUndo() {
        CHECK.part("promise 16, an ABORT and a RESTART between the start and the position");
        TornBackups x = new TornBackups();
        Steps.wholeBackup(x);
        x.set(0, 1, 1);
        x.abort(0);
        x.set(0, 2, 2);
        x.set(1, 3, 3);
        x.set(2, 4, 4);
        x.sync();
        x.crash();
        for (int transaction = 0; transaction < 3; transaction++) {
            Steps.put(x, transaction, 10 + transaction, 9);
        }
        Steps.fillTo(x, 16);
        Steps.archiveAll(x);
        CHECK.due("restore(0, 12)", x.restore(0, 12), 0);
        for (int key = 1; key <= 4; key++) {
            CHECK.due("restored(" + key + ")", x.restored(key), 0);
        }
        for (int key = 10; key <= 12; key++) {
            CHECK.due("restored(" + key + ")", x.restored(key), 9);
        }
    }

    private static void abortOfOneAlone() {
        CHECK.part("promise 16, an ABORT or a COMMIT ends its own transaction alone");
        TornBackups x = new TornBackups();
        Steps.wholeBackup(x);
        x.set(0, 1, 1);
        x.set(1, 2, 2);
        x.set(2, 3, 3);
        x.abort(1);
        x.commit(0);
        x.commit(2);
        Steps.fillTo(x, 8);
        Steps.archiveAll(x);
        CHECK.due("restore(0, 6)", x.restore(0, 6), 0);
        CHECK.due("restored(1)", x.restored(1), 1);
        CHECK.due("restored(2)", x.restored(2), 0);
        CHECK.due("restored(3)", x.restored(3), 3);
    }

    private static void setsLeftByAnEarlierRestore() {
        CHECK.part("promise 16, sets that were open at an earlier restore's position");
        TornBackups x = new TornBackups();
        Steps.wholeBackup(x);
        x.set(0, 1, 1);
        Steps.put(x, 1, 2, 2);
        x.abort(0);
        Steps.wholeBackup(x);
        Steps.put(x, 0, 3, 3);
        Steps.fillTo(x, 8);
        Steps.archiveAll(x);
        CHECK.due("restore(0, 3)", x.restore(0, 3), 0);
        CHECK.due("restore(1, 6)", x.restore(1, 6), 0);
        CHECK.due("restored(1)", x.restored(1), 0);
        CHECK.due("restored(3)", x.restored(3), 3);
    }

    private static void restoredByTheLatest() {
        CHECK.part("promise 17, The value of a key by the latest restore that answered 0");
        TornBackups x = withCommits(4);
        Steps.put(x, 0, 31, 9);
        Steps.fillTo(x, 16);
        Steps.archiveAll(x);
        int[] order = {4, 10, 2, 8, 6, 0};
        for (int position : order) {
            CHECK.due("restore(0, " + position + ")", x.restore(0, position), 0);
            CHECK.due("restored(0)", x.restored(0), Math.min(position / 2, 4));
            CHECK.due("restored(31)", x.restored(31), position == 10 ? 9 : 0);
        }
    }

    private static void restoredNothing() {
        CHECK.part("promise 17, 0 when there was none");
        TornBackups x = new TornBackups();
        for (int key = 0; key < 32; key++) {
            Steps.put(x, 0, key, 5);
        }
        Steps.wholeBackup(x);
        x.restore(0, 63);
        x.restore(0, 65);
        x.restore(1, 64);
        for (int key = 0; key < 32; key++) {
            CHECK.due("none that answered 0, restored(" + key + ")", x.restored(key), 0);
        }
    }

    private static void restoredNoSuchKey() {
        CHECK.part("promise 17, or no such key");
        TornBackups x = new TornBackups();
        for (int key = 0; key < 32; key++) {
            Steps.put(x, 0, key, 5);
        }
        Steps.wholeBackup(x);
        CHECK.due("restore(0, 64)", x.restore(0, 64), 0);
        for (int key : NO_KEYS) {
            CHECK.due("restored(" + key + ")", x.restored(key), 0);
        }
        CHECK.due("restored(0)", x.restored(0), 5);
        CHECK.due("restored(31)", x.restored(31), 5);
    }

    private static void replayedPositionLessStart() {
        CHECK.part("promise 18, its position less its backup's start");
        TornBackups x = torn();
        x.archive();
        x.restore(0, 8);
        CHECK.due("8 less 2", x.replayed(), 6);
        x.restore(0, 6);
        CHECK.due("6 less 2", x.replayed(), 4);
        Steps.wholeBackup(x);
        x.restore(1, 8);
        CHECK.due("8 less 8", x.replayed(), 0);
        x.restore(0, 8);
        x.crash();
        x.drop(0);
        x.forget(0);
        CHECK.due("8 less 2, though all of it is gone", x.replayed(), 6);
    }

    private static void replayedNothing() {
        CHECK.part("promise 18, 0 when there was none");
        TornBackups x = torn();
        CHECK.due("no restore", x.replayed(), 0);
        x.restore(0, 6);
        x.restore(0, 4);
        x.restore(0, -1);
        x.archive();
        x.restore(0, 7);
        CHECK.due("none that answered 0", x.replayed(), 0);
    }

    private static void reachGreatest() {
        CHECK.part("promise 19, The greatest position for which restore() would answer 0 for the backup");
        TornBackups x = torn();
        CHECK.due("nothing archived", x.reach(0), -1);
        x.archive();
        CHECK.due("the last commit", x.reach(0), 8);
        CHECK.due("reach restores nothing", x.restored(0), 0);
        CHECK.due("reach restores nothing", x.replayed(), 0);
        Steps.put(x, 0, 0, 5);
        x.set(0, 0, 6);
        x.abort(0);
        Steps.fillTo(x, 16);
        x.sync();
        CHECK.due("segment 1 is synced, not archived", x.reach(0), 8);
        x.archive();
        CHECK.due("no commit behind 10", x.reach(0), 10);
        x.drop(1);
        CHECK.due("dropped", x.reach(0), 8);
    }

    private static void reachOnASegmentsEdge() {
        CHECK.part("promise 19, a commit as a segment's last record and as the next one's first");
        TornBackups x = withCommits(4);
        Steps.archiveAll(x);
        CHECK.due("record 7", x.reach(0), 8);
        TornBackups y = new TornBackups();
        Steps.wholeBackup(y);
        Steps.put(y, 0, 0, 1);
        Steps.fillTo(y, 7);
        y.set(0, 0, 2);
        CHECK.due("record 8", y.commit(0), 9);
        Steps.archiveAll(y);
        CHECK.due("segment 1 is not whole", y.reach(0), 2);
        Steps.fillTo(y, 16);
        Steps.archiveAll(y);
        CHECK.due("segment 1 is held", y.reach(0), 9);
    }

    private static void reachBeforeAGap() {
        CHECK.part("promise 19, before a segment that is not held");
        TornBackups x = withCommits(20);
        Steps.archiveAll(x);
        CHECK.due("all five", x.reach(0), 40);
        x.drop(4);
        CHECK.due("the last dropped", x.reach(0), 32);
        x.drop(1);
        CHECK.due("one between dropped", x.reach(0), 8);
        x.drop(0);
        CHECK.due("the first dropped", x.reach(0), 0);
        CHECK.due("the others are held still", x.drop(2), true);
    }

    private static void reachTheStart() {
        CHECK.part("promise 19, the start, when it is the end too");
        TornBackups x = new TornBackups();
        Steps.wholeBackup(x);
        CHECK.due("0", x.reach(0), 0);
        x.set(0, 0, 1);
        x.abort(0);
        Steps.wholeBackup(x);
        CHECK.due("2, at which no commit was done", x.reach(1), 2);
        Steps.fillTo(x, 8);
        Steps.archiveAll(x);
        CHECK.due("a segment held, without a commit", x.reach(1), 2);
        CHECK.due("that of 0", x.reach(0), 0);
        Steps.wholeBackup(x);
        CHECK.due("8, behind all segments", x.reach(2), 8);
    }

    private static void reachTheEnd() {
        CHECK.part("promise 19, the end, when a commit was done at it");
        TornBackups x = new TornBackups();
        x.backup();
        Steps.put(x, 0, 0, 1);
        x.sync();
        Steps.copyPages(x, 8);
        Steps.fillTo(x, 8);
        Steps.archiveAll(x);
        CHECK.due("end", x.bound(0, 1), 2);
        CHECK.due("reach(0)", x.reach(0), 2);
    }

    private static void reachNone() {
        CHECK.part("promise 19, -1 when there is none");
        TornBackups x = new TornBackups();
        Steps.put(x, 1, 0, 1);
        x.set(0, 0, 1);
        Steps.wholeBackup(x);
        CHECK.due("start 2, end 3, nothing archived", x.reach(0), -1);
        Steps.fillTo(x, 8);
        Steps.archiveAll(x);
        CHECK.due("archived, no commit from 3 on", x.reach(0), -1);
        CHECK.due("commit(0)", x.commit(0), 9);
        CHECK.due("the commit is not archived", x.reach(0), -1);
        Steps.fillTo(x, 16);
        Steps.archiveAll(x);
        CHECK.due("the commit is archived", x.reach(0), 9);
        x.drop(0);
        CHECK.due("the start's segment dropped", x.reach(0), -1);
        TornBackups y = new TornBackups();
        y.backup();
        Steps.put(y, 0, 0, 1);
        y.set(1, 0, 1);
        y.sync();
        Steps.copyPages(y, 8);
        Steps.fillTo(y, 8);
        Steps.archiveAll(y);
        CHECK.due("start 0, end 3, a commit at 2 alone", y.reach(0), -1);
    }

    private static void reachNoBackup() {
        CHECK.part("promise 19, or no finished backup with that number");
        TornBackups x = withCommits(4);
        Steps.archiveAll(x);
        for (int number : NO_BACKUPS) {
            CHECK.due("reach(" + number + ")", x.reach(number), -1);
        }
        CHECK.due("never begun", x.reach(1), -1);
        x.backup();
        Steps.copyPages(x, 7);
        CHECK.due("one page is left", x.reach(1), -1);
        x.copy();
        CHECK.due("finished", x.reach(1), 8);
        x.forget(1);
        CHECK.due("forgotten", x.reach(1), -1);
        CHECK.due("the other", x.reach(0), 8);
    }

    private static void reachIsTheLastThatRestores() {
        CHECK.part("promise 19, for which restore() would answer 0");
        for (int dropped = -1; dropped < 6; dropped++) {
            TornBackups x = new TornBackups();
            Steps.put(x, 0, 0, 1);
            x.set(1, 1, 1);
            Steps.wholeBackup(x);
            for (int i = 0; i < 14; i++) {
                x.set(0, i, i);
                x.set(0, i + 1, i);
                x.commit(0);
            }
            Steps.fillTo(x, 48);
            Steps.archiveAll(x);
            x.drop(dropped);
            int greatest = -1;
            for (int position = 0; position <= 50; position++) {
                greatest = x.restore(0, position) == 0 ? position : greatest;
            }
            CHECK.due("segment " + dropped + " dropped, reach(0)", x.reach(0), greatest);
        }
    }
}
