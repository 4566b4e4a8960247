/** Promises 14 and 15: archive, drop. */
public final class ArchiveTest {
    private static final Check CHECK = new Check();

    public static void main(String[] args) {
        archiveNeedsSyncedRecords();
        archiveHoldsTen();
        archiveGoesOnBehindDrops();
        dropAnswers();
        archiveOutlivesCrashes();
        CHECK.finish();
    }

    private static void archiveNeedsSyncedRecords() {
        CHECK.part("promise 14, synced records");
        TornBackups x = new TornBackups();
        CHECK.due("an empty log", x.archive(), TornBackups.NONE);
        Steps.fillTo(x, 7);
        x.sync();
        CHECK.due("7 synced", x.archive(), TornBackups.NONE);
        x.set(0, 0, 1);
        CHECK.due("8, one not synced", x.archive(), TornBackups.NONE);
        CHECK.due("archive syncs nothing", x.sync(), 1);
        CHECK.due("8 synced", x.archive(), 0);
        CHECK.due("the next", x.archive(), TornBackups.NONE);
        Steps.fillTo(x, 24);
        CHECK.due("not synced", x.archive(), TornBackups.NONE);
        x.sync();
        CHECK.due("archive()", x.archive(), 1);
        CHECK.due("archive()", x.archive(), 2);
        CHECK.due("archive()", x.archive(), TornBackups.NONE);
    }

    private static void archiveHoldsTen() {
        CHECK.part("promise 14, ten");
        TornBackups x = new TornBackups();
        Steps.fillTo(x, 87);
        x.sync();
        for (int segment = 0; segment < 10; segment++) {
            CHECK.due("archive()", x.archive(), segment);
        }
        CHECK.due("NONE before FULL", x.archive(), TornBackups.NONE);
        x.set(0, 0, 1);
        x.sync();
        CHECK.due("ten are held", x.archive(), TornBackups.FULL);
        CHECK.due("still", x.archive(), TornBackups.FULL);
        CHECK.due("drop(5)", x.drop(5), true);
        CHECK.due("archive()", x.archive(), 10);
        CHECK.due("NONE before FULL", x.archive(), TornBackups.NONE);
    }

    private static void archiveGoesOnBehindDrops() {
        CHECK.part("promise 14, never a number twice");
        TornBackups x = new TornBackups();
        Steps.fillTo(x, 40);
        x.sync();
        x.archive();
        x.archive();
        CHECK.due("drop(1)", x.drop(1), true);
        CHECK.due("archive()", x.archive(), 2);
        x.drop(0);
        x.drop(2);
        CHECK.due("none is held", x.archive(), 3);
        CHECK.due("drop(0)", x.drop(0), false);
        CHECK.due("archive()", x.archive(), 4);
    }

    private static void dropAnswers() {
        CHECK.part("promise 15, drop");
        TornBackups x = new TornBackups();
        CHECK.due("drop(0)", x.drop(0), false);
        Steps.fillTo(x, 16);
        x.sync();
        x.archive();
        CHECK.due("not archived yet", x.drop(1), false);
        CHECK.due("drop(0)", x.drop(0), true);
        CHECK.due("drop(0)", x.drop(0), false);
        x.archive();
        for (int number : Steps.WRONG_NUMBERS) {
            CHECK.due("drop(" + number + ")", x.drop(number), false);
        }
        CHECK.due("drop(1)", x.drop(1), true);
    }

    private static void archiveOutlivesCrashes() {
        CHECK.part("promise 14, crashes");
        TornBackups x = new TornBackups();
        Steps.wholeBackup(x);
        for (int i = 1; i <= 4; i++) {
            Steps.put(x, 0, 0, i);
        }
        x.sync();
        x.archive();
        Steps.put(x, 0, 0, 99);
        x.crash();
        CHECK.due("restore(0, 8)", x.restore(0, 8), 0);
        CHECK.due("restored(0)", x.restored(0), 4);
        Steps.fillTo(x, 16);
        x.sync();
        CHECK.due("the number goes on", x.archive(), 1);
    }
}
