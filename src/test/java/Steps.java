/** Steps that several tests take. */
final class Steps {
    static final int[] WRONG_NUMBERS = {Integer.MIN_VALUE, -2, -1, 32, 64, 1000, Integer.MAX_VALUE};

    private Steps() {
    }

    /** One set and its commit: two records. */
    static int put(TornBackups x, int transaction, int key, int value) {
        x.set(transaction, key, value);
        return x.commit(transaction);
    }

    /** Adds records that change nothing until the log has that many (at least two are added). */
    static void fillTo(TornBackups x, int position) {
        while (position - x.position() > 5) {
            x.set(2, 0, 0);
            x.set(2, 0, 0);
            x.abort(2);
        }
        while (x.position() < position - 1) {
            x.set(2, 0, 0);
        }
        x.abort(2);
    }

    static void copyPages(TornBackups x, int count) {
        for (int i = 0; i < count; i++) {
            x.copy();
        }
    }

    static int wholeBackup(TornBackups x) {
        int number = x.backup();
        copyPages(x, 8);
        return number;
    }

    static void archiveAll(TornBackups x) {
        x.sync();
        for (int i = 0; i < 64 && x.archive() >= 0; i++) {
            continue;
        }
    }
}
