import java.util.ArrayList;
import java.util.Collections;
import java.util.IdentityHashMap;
import java.util.List;
import java.util.Set;
import java.util.TreeMap;
import java.util.TreeSet;

/**
 * The document written a second time, with no care for speed: values are always worked out from the
 * whole log, a restore's too, so that it can't share a fault with a program that keeps them.
 */
final class Model {
    static final int BAD = -1;
    static final int FULL = -2;
    static final int NONE = -3;
    static final int EARLY = -4;
    static final int BETWEEN = -5;
    static final int MISSING = -6;

    private enum Kind { SET, COMMIT, ABORT, RESTART }

    private static final class Entry {
        final Kind kind;
        final int transaction;
        final int key;
        final int value;

        Entry(Kind kind, int transaction, int key, int value) {
            this.kind = kind;
            this.transaction = transaction;
            this.key = key;
            this.value = value;
        }
    }

    private static final class Copy {
        int pages;
        int start;
        int end;

        boolean finished() {
            return pages == 8;
        }
    }

    private List<Entry> log = new ArrayList<>();
    private int synced;
    private final List<Set<Entry>> flushed = new ArrayList<>();
    private final TreeMap<Integer, Copy> backups = new TreeMap<>();
    private final TreeSet<Integer> archived = new TreeSet<>();
    private int archivedEver;
    private int[] restored = new int[32];
    private int replayed;

    Model() {
        for (int page = 0; page < 8; page++) {
            flushed.add(Collections.newSetFromMap(new IdentityHashMap<>()));
        }
    }

    /** The numbers of the sets that a transaction has added since it was opened, as of a position. */
    private List<Integer> setsOf(int transaction, int position) {
        List<Integer> sets = new ArrayList<>();
        for (int n = 0; n < position; n++) {
            Entry entry = log.get(n);
            if (entry.kind == Kind.RESTART) {
                sets.clear();
            } else if (entry.transaction == transaction && entry.kind == Kind.SET) {
                sets.add(n);
            } else if (entry.transaction == transaction) {
                sets.clear();
            }
        }
        return sets;
    }

    private boolean isCommit(int n) {
        return n >= 0 && n < log.size() && log.get(n).kind == Kind.COMMIT;
    }

    private int[] valuesAt(int position) {
        int[] values = new int[32];
        for (int n = 0; n < position; n++) {
            if (isCommit(n)) {
                for (int set : setsOf(log.get(n).transaction, n)) {
                    values[log.get(set).key] = log.get(set).value;
                }
            }
        }
        return values;
    }

    /** The numbers of the commits with a set for a key of the page that are not flushed yet. */
    private List<Integer> unflushed(int page) {
        List<Integer> found = new ArrayList<>();
        for (int n = 0; n < log.size(); n++) {
            if (!isCommit(n) || flushed.get(page).contains(log.get(n))) {
                continue;
            }
            for (int set : setsOf(log.get(n).transaction, n)) {
                if (log.get(set).key / 4 == page && !found.contains(n)) {
                    found.add(n);
                }
            }
        }
        return found;
    }

    private int add(Kind kind, int transaction, int key, int value) {
        log.add(new Entry(kind, transaction, key, value));
        return log.size();
    }

    int set(int transaction, int key, int value) {
        if (transaction < 0 || transaction > 2 || key < 0 || key > 31) {
            return BAD;
        }
        if (setsOf(transaction, log.size()).size() == 4) {
            return FULL;
        }
        return add(Kind.SET, transaction, key, value);
    }

    private int end(int transaction, Kind kind) {
        if (transaction < 0 || transaction > 2) {
            return BAD;
        }
        if (setsOf(transaction, log.size()).isEmpty()) {
            return NONE;
        }
        return add(kind, transaction, 0, 0);
    }

    int commit(int transaction) {
        return end(transaction, Kind.COMMIT);
    }

    int abort(int transaction) {
        return end(transaction, Kind.ABORT);
    }

    int get(int key) {
        return key < 0 || key > 31 ? 0 : valuesAt(log.size())[key];
    }

    int sync() {
        int count = log.size() - synced;
        synced = log.size();
        return count;
    }

    int flush(int page) {
        if (page < 0 || page > 7) {
            return BAD;
        }
        List<Integer> commits = unflushed(page);
        if (commits.isEmpty()) {
            return 0;
        }
        for (int n : commits) {
            if (n >= synced) {
                synced = log.size();
            }
            flushed.get(page).add(log.get(n));
        }
        return 1;
    }

    int checkpoint() {
        sync();
        for (int page = 0; page < 8; page++) {
            flush(page);
        }
        int redo = log.size();
        for (int transaction = 0; transaction < 3; transaction++) {
            for (int set : setsOf(transaction, log.size())) {
                redo = Math.min(redo, set);
            }
        }
        return redo;
    }

    int crash() {
        int lost = log.size() - synced;
        log = new ArrayList<>(log.subList(0, synced));
        backups.values().removeIf(copy -> !copy.finished());
        add(Kind.RESTART, -1, 0, 0);
        sync();
        return lost;
    }

    private Copy unfinished() {
        for (Copy copy : backups.values()) {
            if (!copy.finished()) {
                return copy;
            }
        }
        return null;
    }

    private Copy finished(int number) {
        Copy copy = backups.get(number);
        return copy != null && copy.finished() ? copy : null;
    }

    int backup() {
        if (unfinished() != null) {
            return BAD;
        }
        if (backups.size() == 3) {
            return FULL;
        }
        int number = 0;
        while (backups.containsKey(number)) {
            number++;
        }
        Copy copy = new Copy();
        copy.start = checkpoint();
        backups.put(number, copy);
        return number;
    }

    int copy() {
        Copy copy = unfinished();
        if (copy == null) {
            return NONE;
        }
        copy.pages++;
        copy.end = synced;
        return 8 - copy.pages;
    }

    boolean forget(int number) {
        return finished(number) != null && backups.remove(number) != null;
    }

    int bound(int number, int which) {
        Copy copy = finished(number);
        if (copy == null || which < 0 || which > 1) {
            return BAD;
        }
        return which == 0 ? copy.start : copy.end;
    }

    int archive() {
        if (8 * archivedEver + 7 >= synced) {
            return NONE;
        }
        if (archived.size() == 10) {
            return FULL;
        }
        archived.add(archivedEver);
        return archivedEver++;
    }

    boolean drop(int segment) {
        return archived.remove(segment);
    }

    private int tryRestore(int number, int position) {
        Copy copy = finished(number);
        if (copy == null || position < 0) {
            return BAD;
        }
        if (position < copy.end) {
            return EARLY;
        }
        if (position > log.size() && position > copy.start) {
            return MISSING;
        }
        for (int n = copy.start; n < position; n++) {
            if (!archived.contains(n / 8)) {
                return MISSING;
            }
        }
        return position == copy.start || isCommit(position - 1) ? 0 : BETWEEN;
    }

    int restore(int number, int position) {
        int answer = tryRestore(number, position);
        if (answer == 0) {
            restored = valuesAt(position);
            replayed = position - finished(number).start;
        }
        return answer;
    }

    int restored(int key) {
        return key < 0 || key > 31 ? 0 : restored[key];
    }

    int replayed() {
        return replayed;
    }

    int reach(int number) {
        int greatest = -1;
        for (int position = 0; position <= log.size(); position++) {
            if (tryRestore(number, position) == 0) {
                greatest = position;
            }
        }
        return greatest;
    }

    int position() {
        return log.size();
    }

    int dirty() {
        int count = 0;
        for (int page = 0; page < 8; page++) {
            if (!unflushed(page).isEmpty()) {
                count++;
            }
        }
        return count;
    }
}
