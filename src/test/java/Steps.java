/** Steps that several tests take. */
final class Steps {
    static final int[] WRONG_NUMBERS = {Integer.MIN_VALUE, -2, -1, 32, 64, 1000, Integer.MAX_VALUE};

    private Steps() {
    }

    /** One set and its commit: two records. */
    static int put(TornBackups x, int transaction, int key, int value) {
        x.set(transaction, key, value);
        return x.commit(transaction);
    }

    /** Adds sets and aborts of transaction 2 until the log has that many records (two or more are added). */
    static void fillTo(TornBackups x, int position) {
        int missing = position - x.position();
        for (; missing > 5; missing -= 3) {
            x.set(2, 0, 0);
            x.set(2, 0, 0);
            x.abort(2);
        }
        for (; missing > 1; missing--) {
            x.set(2, 0, 0);
        }
        x.abort(2);
    }

    static void copyPages(TornBackups x, int count) {
        for (int i = 0; i < count; i++) {
            x.copy();
        }
    }

    static int wholeBackup(TornBackups x) {
        int number = x.backup();
        copyPages(x, 8);
        return number;
    }

    static void archiveAll(TornBackups x) {
        x.sync();
        for (int i = 0; i < 64 && x.archive() >= 0; i++) {
            continue;
        }
    }
}
