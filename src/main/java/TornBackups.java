/**
 * A store of numbers with a log, backups that are copied page by page while writes go on,
 * an archive of the log's segments, and restores to any commit behind a backup.
 */
public final class TornBackups {
    public static final int BAD = -1;
    public static final int FULL = -2;
    public static final int NONE = -3;
    public static final int EARLY = -4;
    public static final int BETWEEN = -5;
    public static final int MISSING = -6;

    private static final int KEYS = 32;
    private static final int PAGES = 8;
    private static final int KEYS_OF_A_PAGE = 4;
    private static final int TRANSACTIONS = 3;
    private static final int SETS_OF_A_TRANSACTION = 4;
    private static final int BACKUPS = 3;
    private static final int RECORDS_OF_A_SEGMENT = 8;
    private static final int SEGMENTS_HELD_AT_MOST = 10;
    /** A call adds one record at most, and an object is used for at most 512 calls. */
    private static final int RECORDS_AT_MOST = 512;
    private static final int SEGMENTS_AT_MOST = RECORDS_AT_MOST / RECORDS_OF_A_SEGMENT;

    private static final int NO_BACKUP = -1;
    private static final int NO_POSITION = -1;

    private final Log log;
    private final Transactions transactions;
    private final Pages pages;
    private final Backup[] backups;
    private final Archive segments;
    private final Restoration restoration;
    private int unfinishedBackup;

    public TornBackups() {
        log = new Log();
        transactions = new Transactions();
        pages = new Pages();
        segments = new Archive();
        restoration = new Restoration();
        backups = new Backup[BACKUPS];
        for (int number = 0; number < BACKUPS; number++) {
            backups[number] = new Backup();
        }
        unfinishedBackup = NO_BACKUP;
    }

    public int set(int transaction, int key, int value) {
        if (!isTransaction(transaction) || !isKey(key)) {
            return BAD;
        }
        if (transactions.hasAllSets(transaction) || log.isFull()) {
            return FULL;
        }
        transactions.addSet(transaction, key, value, log.length);
        return log.append(Log.SET, transaction, key, value);
    }

    public int commit(int transaction) {
        int refusal = refusalToEnd(transaction);
        if (refusal != 0) {
            return refusal;
        }
        int doneAt = log.append(Log.COMMIT, transaction, 0, 0);
        pages.takeCommit(transactions, transaction, doneAt);
        transactions.close(transaction);
        return doneAt;
    }

    public int abort(int transaction) {
        int refusal = refusalToEnd(transaction);
        if (refusal != 0) {
            return refusal;
        }
        transactions.close(transaction);
        return log.append(Log.ABORT, transaction, 0, 0);
    }

    public int get(int key) {
        return isKey(key) ? pages.memory[key] : 0;
    }

    public int sync() {
        return syncLog();
    }

    public int flush(int page) {
        if (page < 0 || page >= PAGES) {
            return BAD;
        }
        return flushPage(page) ? 1 : 0;
    }

    public int checkpoint() {
        return makeCheckpoint();
    }

    public int crash() {
        int lost = log.loseUnsynced();
        transactions.closeAll();
        pages.loseCommitsBehind(log.synced);
        if (unfinishedBackup != NO_BACKUP) {
            backups[unfinishedBackup].remove();
            unfinishedBackup = NO_BACKUP;
        }
        if (!log.isFull()) {
            log.append(Log.RESTART, 0, 0, 0);
        }
        syncLog();
        return lost;
    }

    public int backup() {
        if (unfinishedBackup != NO_BACKUP) {
            return BAD;
        }
        int number = leastFreeBackup();
        if (number == NO_BACKUP) {
            return FULL;
        }
        int redo = makeCheckpoint();
        backups[number].begin(redo, log.length);
        unfinishedBackup = number;
        return number;
    }

    public int copy() {
        if (unfinishedBackup == NO_BACKUP) {
            return NONE;
        }
        Backup backup = backups[unfinishedBackup];
        int left = backup.takeNextPage(pages.disk);
        if (left == 0) {
            backup.finish(log.synced);
            unfinishedBackup = NO_BACKUP;
        }
        return left;
    }

    public boolean forget(int backup) {
        if (!isFinishedBackup(backup)) {
            return false;
        }
        backups[backup].remove();
        return true;
    }

    public int bound(int backup, int which) {
        if (!isFinishedBackup(backup)) {
            return BAD;
        }
        switch (which) {
            case 0:
                return backups[backup].start;
            case 1:
                return backups[backup].end;
            default:
                return BAD;
        }
    }

    public int archive() {
        if (!segments.nextIsWithin(log.synced)) {
            return NONE;
        }
        if (segments.isFull()) {
            return FULL;
        }
        return segments.holdNext();
    }

    public boolean drop(int segment) {
        return segments.release(segment);
    }

    public int restore(int backup, int position) {
        if (!isFinishedBackup(backup) || position < 0) {
            return BAD;
        }
        Backup source = backups[backup];
        if (position < source.end) {
            return EARLY;
        }
        if (position > source.start && !segments.holdsRecords(source.start, position)) {
            return MISSING;
        }
        if (position != source.start && !log.hasCommitDoneAt(position)) {
            return BETWEEN;
        }
        restoration.rebuild(source, log, position);
        return 0;
    }

    public int restored(int key) {
        return isKey(key) ? restoration.values[key] : 0;
    }

    public int replayed() {
        return restoration.recordsReplayed;
    }

    public int reach(int backup) {
        if (!isFinishedBackup(backup)) {
            return NO_POSITION;
        }
        Backup source = backups[backup];
        int heldTo = segments.heldWithoutGapFrom(source.start);
        for (int position = heldTo; position > source.start && position >= source.end; position--) {
            if (log.hasCommitDoneAt(position)) {
                return position;
            }
        }
        return source.start == source.end ? source.start : NO_POSITION;
    }

    public int position() {
        return log.length;
    }

    public int dirty() {
        return pages.countDirty();
    }

    private static boolean isTransaction(int transaction) {
        return transaction >= 0 && transaction < TRANSACTIONS;
    }

    private static boolean isKey(int key) {
        return key >= 0 && key < KEYS;
    }

    private boolean isFinishedBackup(int number) {
        return number >= 0 && number < BACKUPS && backups[number].finished;
    }

    /** What commit and abort answer when they can't be done, or 0. */
    private int refusalToEnd(int transaction) {
        if (!isTransaction(transaction)) {
            return BAD;
        }
        if (!transactions.isOpen(transaction)) {
            return NONE;
        }
        return log.isFull() ? FULL : 0;
    }

    private int leastFreeBackup() {
        for (int number = 0; number < BACKUPS; number++) {
            if (!backups[number].present) {
                return number;
            }
        }
        return NO_BACKUP;
    }

    private int syncLog() {
        pages.keepForCrash();
        return log.syncAll();
    }

    private boolean flushPage(int page) {
        if (!pages.isDirty(page)) {
            return false;
        }
        if (pages.dirtyUntil[page] > log.synced) {
            syncLog();
        }
        pages.writeToDisk(page);
        return true;
    }

    private int makeCheckpoint() {
        syncLog();
        for (int page = 0; page < PAGES; page++) {
            flushPage(page);
        }
        return transactions.leastFirstSet(log.length);
    }

    /** The records. Those that are synced never change, so the archive need not copy them. */
    private static final class Log {
        static final int SET = 0;
        static final int COMMIT = 1;
        static final int ABORT = 2;
        static final int RESTART = 3;

        final int[] kinds = new int[RECORDS_AT_MOST];
        final int[] owners = new int[RECORDS_AT_MOST];
        final int[] keys = new int[RECORDS_AT_MOST];
        final int[] values = new int[RECORDS_AT_MOST];
        int length;
        int synced;

        /** True only behind the 512th call. */
        boolean isFull() {
            return length >= RECORDS_AT_MOST;
        }

        int append(int kind, int transaction, int key, int value) {
            kinds[length] = kind;
            owners[length] = transaction;
            keys[length] = key;
            values[length] = value;
            length++;
            return length;
        }

        int syncAll() {
            int before = synced;
            synced = length;
            return length - before;
        }

        int loseUnsynced() {
            int lost = length - synced;
            length = synced;
            return lost;
        }

        boolean hasCommitDoneAt(int position) {
            return position > 0 && position <= length && kinds[position - 1] == COMMIT;
        }
    }

    /** The sets of the transactions that are open. */
    private static final class Transactions {
        final int[] counts = new int[TRANSACTIONS];
        final int[] firstSets = new int[TRANSACTIONS];
        final int[] keys = new int[TRANSACTIONS * SETS_OF_A_TRANSACTION];
        final int[] values = new int[TRANSACTIONS * SETS_OF_A_TRANSACTION];

        boolean isOpen(int transaction) {
            return counts[transaction] > 0;
        }

        boolean hasAllSets(int transaction) {
            return counts[transaction] >= SETS_OF_A_TRANSACTION;
        }

        void addSet(int transaction, int key, int value, int record) {
            if (!isOpen(transaction)) {
                firstSets[transaction] = record;
            }
            int slot = firstSlot(transaction) + counts[transaction];
            keys[slot] = key;
            values[slot] = value;
            counts[transaction]++;
        }

        int firstSlot(int transaction) {
            return transaction * SETS_OF_A_TRANSACTION;
        }

        int slotsEnd(int transaction) {
            return firstSlot(transaction) + counts[transaction];
        }

        void close(int transaction) {
            counts[transaction] = 0;
        }

        void closeAll() {
            for (int transaction = 0; transaction < TRANSACTIONS; transaction++) {
                close(transaction);
            }
        }

        int leastFirstSet(int ifNoneIsOpen) {
            int least = ifNoneIsOpen;
            for (int transaction = 0; transaction < TRANSACTIONS; transaction++) {
                if (isOpen(transaction)) {
                    least = Math.min(least, firstSets[transaction]);
                }
            }
            return least;
        }

        void writeSetsTo(int[] target, int transaction) {
            int end = slotsEnd(transaction);
            for (int slot = firstSlot(transaction); slot < end; slot++) {
                target[keys[slot]] = values[slot];
            }
        }
    }

    /** The pages in memory and on disk. */
    private static final class Pages {
        final int[] memory = new int[KEYS];
        /** The memory when the log was last synced: a crash falls back to just that. */
        final int[] memoryAtSync = new int[KEYS];
        final int[] disk = new int[KEYS];
        /** The positions of a page's first and last commit that is not flushed yet; 0: none. */
        final int[] dirtySince = new int[PAGES];
        final int[] dirtyUntil = new int[PAGES];

        boolean isDirty(int page) {
            return dirtySince[page] > 0;
        }

        int countDirty() {
            int count = 0;
            for (int page = 0; page < PAGES; page++) {
                if (isDirty(page)) {
                    count++;
                }
            }
            return count;
        }

        void takeCommit(Transactions transactions, int transaction, int doneAt) {
            transactions.writeSetsTo(memory, transaction);
            int end = transactions.slotsEnd(transaction);
            for (int slot = transactions.firstSlot(transaction); slot < end; slot++) {
                markDirty(transactions.keys[slot] / KEYS_OF_A_PAGE, doneAt);
            }
        }

        void markDirty(int page, int doneAt) {
            if (!isDirty(page)) {
                dirtySince[page] = doneAt;
            }
            dirtyUntil[page] = doneAt;
        }

        void markClean(int page) {
            dirtySince[page] = 0;
            dirtyUntil[page] = 0;
        }

        void writeToDisk(int page) {
            int first = page * KEYS_OF_A_PAGE;
            System.arraycopy(memory, first, disk, first, KEYS_OF_A_PAGE);
            markClean(page);
        }

        void keepForCrash() {
            System.arraycopy(memory, 0, memoryAtSync, 0, KEYS);
        }

        void loseCommitsBehind(int synced) {
            System.arraycopy(memoryAtSync, 0, memory, 0, KEYS);
            for (int page = 0; page < PAGES; page++) {
                if (dirtySince[page] > synced) {
                    markClean(page);
                }
                dirtyUntil[page] = Math.min(dirtyUntil[page], synced);
            }
        }
    }

    /** A place for a backup, used again when the backup in it is gone. */
    private static final class Backup {
        final int[] values = new int[KEYS];
        boolean present;
        boolean finished;
        int start;
        int checkpointedAt;
        int end;
        int pagesCopied;

        void begin(int redo, int position) {
            present = true;
            finished = false;
            start = redo;
            checkpointedAt = position;
            pagesCopied = 0;
        }

        int takeNextPage(int[] disk) {
            int first = pagesCopied * KEYS_OF_A_PAGE;
            System.arraycopy(disk, first, values, first, KEYS_OF_A_PAGE);
            pagesCopied++;
            return PAGES - pagesCopied;
        }

        void finish(int synced) {
            finished = true;
            end = synced;
        }

        void remove() {
            present = false;
            finished = false;
        }
    }

    /** Which segments are archived. */
    private static final class Archive {
        final boolean[] held = new boolean[SEGMENTS_AT_MOST];
        int heldCount;
        int next;

        boolean nextIsWithin(int synced) {
            return next < SEGMENTS_AT_MOST && (next + 1) * RECORDS_OF_A_SEGMENT <= synced;
        }

        boolean isFull() {
            return heldCount >= SEGMENTS_HELD_AT_MOST;
        }

        int holdNext() {
            int segment = next;
            held[segment] = true;
            heldCount++;
            next++;
            return segment;
        }

        boolean holds(int segment) {
            return segment >= 0 && segment < next && held[segment];
        }

        boolean release(int segment) {
            if (!holds(segment)) {
                return false;
            }
            held[segment] = false;
            heldCount--;
            return true;
        }

        /** The end of the held segments that follow one another from the one with that record. */
        int heldWithoutGapFrom(int record) {
            int segment = record / RECORDS_OF_A_SEGMENT;
            while (segment < SEGMENTS_AT_MOST && holds(segment)) {
                segment++;
            }
            return segment * RECORDS_OF_A_SEGMENT;
        }

        boolean holdsRecords(int first, int end) {
            return end <= heldWithoutGapFrom(first);
        }
    }

    /** What the latest restore gave. */
    private static final class Restoration {
        final int[] values = new int[KEYS];
        final Transactions transactions = new Transactions();
        int recordsReplayed;

        void rebuild(Backup source, Log log, int position) {
            System.arraycopy(source.values, 0, values, 0, KEYS);
            transactions.closeAll();
            for (int record = source.start; record < position; record++) {
                replay(log, record, record >= source.checkpointedAt);
            }
            recordsReplayed = position - source.start;
        }

        /**
         * Commits before the checkpoint are in the backup's pages already, and some of their sets
         * may lie before the backup's start: done again in part, they would bring back old values.
         */
        void replay(Log log, int record, boolean behindCheckpoint) {
            int transaction = log.owners[record];
            switch (log.kinds[record]) {
                case Log.SET:
                    if (!transactions.hasAllSets(transaction)) {
                        transactions.addSet(transaction, log.keys[record], log.values[record], record);
                    }
                    break;
                case Log.COMMIT:
                    if (behindCheckpoint) {
                        transactions.writeSetsTo(values, transaction);
                    }
                    transactions.close(transaction);
                    break;
                case Log.ABORT:
                    transactions.close(transaction);
                    break;
                default:
                    transactions.closeAll();
                    break;
            }
        }
    }
}
