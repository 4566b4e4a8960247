import java.util.ArrayList;
import java.util.List;
import java.util.function.Consumer;

/**
 * All that later calls can tell of the state that some steps lead to, hidden parts too (what is open,
 * synced, on disk, held). Since most calls that tell something change something, each look is taken at
 * an object of its own, brought there by the same steps.
 */
final class Sight {
    private interface Look {
        void at(TornBackups x, List<String> seen);
    }

    private static final int LOOKS_AT_A_BACKUP = 150;

    private Sight() {
    }

    static List<String> behind(Consumer<TornBackups> steps) {
        List<String> seen = new ArrayList<>();
        for (Look look : looks()) {
            TornBackups x = new TornBackups();
            steps.accept(x);
            look.at(x, seen);
        }
        return seen;
    }

    private static List<Look> looks() {
        List<Look> looks = new ArrayList<>();
        looks.add(Sight::plainly);
        looks.add(Sight::syncing);
        looks.add(Sight::crashing);
        looks.add(Sight::committing);
        looks.add(Sight::aborting);
        looks.add(Sight::backingUp);
        looks.add(Sight::copying);
        looks.add(Sight::archiving);
        looks.add(Sight::dropping);
        for (int i = 0; i < 8; i++) {
            int page = i;
            looks.add((x, seen) -> flushing(x, page, seen));
        }
        for (int i = 0; i < 3; i++) {
            int number = i;
            looks.add((x, seen) -> restoring(x, number, seen));
            looks.add((x, seen) -> forgetting(x, number, seen));
        }
        return looks;
    }

    private static void plainly(TornBackups x, List<String> seen) {
        for (int key = 0; key < 32; key++) {
            seen.add("get(" + key + "): " + x.get(key));
            seen.add("restored(" + key + "): " + x.restored(key));
        }
        for (int number = 0; number < 3; number++) {
            seen.add("bound(" + number + ", 0): " + x.bound(number, 0));
            seen.add("bound(" + number + ", 1): " + x.bound(number, 1));
            seen.add("reach(" + number + "): " + x.reach(number));
        }
        seen.add("replayed(): " + x.replayed());
        seen.add("position(): " + x.position());
        seen.add("dirty(): " + x.dirty());
    }

    private static void syncing(TornBackups x, List<String> seen) {
        seen.add("sync(): " + x.sync());
        seen.add("checkpoint(): " + x.checkpoint());
    }

    private static void crashing(TornBackups x, List<String> seen) {
        seen.add("crash(): " + x.crash());
        plainly(x, seen);
    }

    private static void committing(TornBackups x, List<String> seen) {
        for (int transaction = 0; transaction < 3; transaction++) {
            seen.add("commit(" + transaction + "): " + x.commit(transaction));
        }
        plainly(x, seen);
    }

    private static void aborting(TornBackups x, List<String> seen) {
        for (int transaction = 0; transaction < 3; transaction++) {
            for (int i = 0; i < 5; i++) {
                seen.add("set(" + transaction + ", 0, 1): " + x.set(transaction, 0, 1));
            }
            seen.add("abort(" + transaction + "): " + x.abort(transaction));
        }
    }

    private static void flushing(TornBackups x, int page, List<String> seen) {
        seen.add("flush(" + page + "): " + x.flush(page));
        seen.add("sync() behind it: " + x.sync());
        seen.add("dirty() behind it: " + x.dirty());
    }

    private static void backingUp(TornBackups x, List<String> seen) {
        seen.add("backup(): " + x.backup());
        copying(x, seen);
    }

    private static void copying(TornBackups x, List<String> seen) {
        for (int i = 0; i < 9; i++) {
            seen.add("copy(): " + x.copy());
        }
        for (int number = 0; number < 3; number++) {
            seen.add("the end of " + number + ": " + x.bound(number, 1));
            restoreAndSee(x, number, x.bound(number, 1), seen);
        }
    }

    private static void archiving(TornBackups x, List<String> seen) {
        for (int i = 0; i < 11; i++) {
            seen.add("archive(): " + x.archive());
        }
        x.sync();
        for (int i = 0; i < 11; i++) {
            seen.add("archive() behind a sync: " + x.archive());
        }
        plainly(x, seen);
    }

    private static void dropping(TornBackups x, List<String> seen) {
        for (int segment = 0; segment < 64; segment++) {
            seen.add("drop(" + segment + "): " + x.drop(segment));
        }
    }

    private static void restoring(TornBackups x, int number, List<String> seen) {
        restoreAndSee(x, number, x.reach(number), seen);
        int first = Math.max(0, x.bound(number, 1) - 2);
        int last = Math.min(x.position() + 1, first + LOOKS_AT_A_BACKUP);
        for (int position = first; position <= last; position++) {
            seen.add("restore(" + number + ", " + position + "): " + x.restore(number, position));
        }
    }

    private static void restoreAndSee(TornBackups x, int number, int position, List<String> seen) {
        seen.add("restore(" + number + ", " + position + "): " + x.restore(number, position));
        for (int key = 0; key < 32; key++) {
            seen.add("restored(" + key + ") by it: " + x.restored(key));
        }
        seen.add("replayed() by it: " + x.replayed());
    }

    private static void forgetting(TornBackups x, int number, List<String> seen) {
        seen.add("forget(" + number + "): " + x.forget(number));
        seen.add("backup() behind it: " + x.backup());
    }
}
