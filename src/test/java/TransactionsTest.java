/** Promises 1 to 5 and 20: a new object, set, commit, abort, get, position. */
public final class TransactionsTest {
    private static final Check CHECK = new Check();

    public static void main(String[] args) {
        newObject();
        objectsApart();
        setAnswers();
        setRefuses();
        setStaysHidden();
        commitAnswers();
        commitInOrder();
        abortAnswers();
        getAnswers();
        positionCounts();
        CHECK.finish();
    }

    private static void newObject() {
        CHECK.part("promise 1, a new object");
        TornBackups x = new TornBackups();
        for (int key = 0; key < 32; key++) {
            CHECK.due("get(" + key + ")", x.get(key), 0);
            CHECK.due("restored(" + key + ")", x.restored(key), 0);
        }
        CHECK.due("position()", x.position(), 0);
        CHECK.due("dirty()", x.dirty(), 0);
        CHECK.due("replayed()", x.replayed(), 0);
        for (int transaction = 0; transaction < 3; transaction++) {
            CHECK.due("commit", x.commit(transaction), TornBackups.NONE);
            CHECK.due("abort", x.abort(transaction), TornBackups.NONE);
        }
        for (int backup = 0; backup < 3; backup++) {
            CHECK.due("bound", x.bound(backup, 0), TornBackups.BAD);
            CHECK.due("forget", x.forget(backup), false);
            CHECK.due("reach", x.reach(backup), -1);
            CHECK.due("restore", x.restore(backup, 0), TornBackups.BAD);
        }
        CHECK.due("copy()", x.copy(), TornBackups.NONE);
        CHECK.due("archive()", x.archive(), TornBackups.NONE);
        CHECK.due("drop(0)", x.drop(0), false);
        CHECK.due("sync()", x.sync(), 0);
        CHECK.due("checkpoint()", x.checkpoint(), 0);
        CHECK.due("crash()", x.crash(), 0);
    }

    private static void objectsApart() {
        CHECK.part("promise 1, two objects");
        TornBackups x = new TornBackups();
        Steps.put(x, 0, 3, 33);
        TornBackups y = new TornBackups();
        CHECK.due("get(3) of the other", y.get(3), 0);
        CHECK.due("position() of the other", y.position(), 0);
        Steps.put(y, 0, 3, 44);
        CHECK.due("get(3)", x.get(3), 33);
    }

    private static void setAnswers() {
        CHECK.part("promise 2, set");
        TornBackups x = new TornBackups();
        CHECK.due("set(0, 0, 5)", x.set(0, 0, 5), 1);
        CHECK.due("set(2, 31, -5)", x.set(2, 31, -5), 2);
        CHECK.due("set(1, 16, max)", x.set(1, 16, Integer.MAX_VALUE), 3);
        CHECK.due("set(0, 0, 6)", x.set(0, 0, 6), 4);
        CHECK.due("set(0, 0, 6)", x.set(0, 0, 6), 5);
        CHECK.due("set(0, 9, 6)", x.set(0, 9, 6), 6);
        CHECK.due("the 5th", x.set(0, 9, 6), TornBackups.FULL);
        CHECK.due("position()", x.position(), 6);
        CHECK.due("another one's", x.set(1, 9, 6), 7);
        x.commit(0);
        CHECK.due("opened again", x.set(0, 9, 6), 9);
        Steps.fillTo(x, 12);
        x.set(0, 1, 1);
        x.set(0, 1, 1);
        CHECK.due("the 4th", x.set(0, 1, 1), 15);
        CHECK.due("the 5th", x.set(0, 1, 1), TornBackups.FULL);
        x.abort(0);
        CHECK.due("behind an abort", x.set(0, 1, 1), 17);
        for (int i = 0; i < 3; i++) {
            x.set(0, 1, 1);
        }
        x.sync();
        x.crash();
        CHECK.due("behind a crash", x.set(0, 1, 1), 22);
    }

    private static void setRefuses() {
        CHECK.part("promise 2, wrong numbers");
        TornBackups x = new TornBackups();
        for (int number : Steps.WRONG_NUMBERS) {
            CHECK.due("set(" + number + ", 0, 1)", x.set(number, 0, 1), TornBackups.BAD);
            CHECK.due("set(0, " + number + ", 1)", x.set(0, number, 1), TornBackups.BAD);
        }
        CHECK.due("set(3, 0, 1)", x.set(3, 0, 1), TornBackups.BAD);
        CHECK.due("position()", x.position(), 0);
        CHECK.due("commit(0)", x.commit(0), TornBackups.NONE);
        for (int i = 0; i < 4; i++) {
            x.set(0, 1, 1);
        }
        CHECK.due("BAD before FULL", x.set(0, 32, 1), TornBackups.BAD);
    }

    private static void setStaysHidden() {
        CHECK.part("promise 2, not seen before the commit");
        TornBackups x = new TornBackups();
        x.set(0, 7, 70);
        CHECK.due("get(7)", x.get(7), 0);
        CHECK.due("dirty()", x.dirty(), 0);
        x.checkpoint();
        CHECK.due("get(7)", x.get(7), 0);
        x.commit(0);
        CHECK.due("get(7)", x.get(7), 70);
    }

    private static void commitAnswers() {
        CHECK.part("promise 3, commit");
        TornBackups x = new TornBackups();
        x.set(0, 1, 10);
        x.set(1, 1, 20);
        CHECK.due("commit(1)", x.commit(1), 3);
        CHECK.due("get(1)", x.get(1), 20);
        CHECK.due("commit(1)", x.commit(1), TornBackups.NONE);
        CHECK.due("commit(2)", x.commit(2), TornBackups.NONE);
        CHECK.due("commit(0)", x.commit(0), 4);
        CHECK.due("get(1)", x.get(1), 10);
        CHECK.due("commit(3)", x.commit(3), TornBackups.BAD);
        for (int number : Steps.WRONG_NUMBERS) {
            CHECK.due("commit(" + number + ")", x.commit(number), TornBackups.BAD);
        }
        CHECK.due("position()", x.position(), 4);
    }

    private static void commitInOrder() {
        CHECK.part("promise 3, sets in their order");
        TornBackups x = new TornBackups();
        x.set(0, 1, 5);
        x.set(0, 2, 6);
        x.set(0, 1, 7);
        x.set(0, 2, 8);
        x.commit(0);
        CHECK.due("get(1)", x.get(1), 7);
        CHECK.due("get(2)", x.get(2), 8);
        x.set(0, 3, 9);
        x.commit(0);
        CHECK.due("old sets are not done again, position", x.position(), 7);
        Steps.put(x, 1, 1, 50);
        Steps.put(x, 0, 3, 10);
        CHECK.due("get(1)", x.get(1), 50);
    }

    private static void abortAnswers() {
        CHECK.part("promise 4, abort");
        TornBackups x = new TornBackups();
        Steps.put(x, 0, 4, 40);
        x.set(0, 4, 41);
        x.set(1, 4, 42);
        CHECK.due("abort(0)", x.abort(0), 5);
        CHECK.due("get(4)", x.get(4), 40);
        CHECK.due("abort(0)", x.abort(0), TornBackups.NONE);
        CHECK.due("commit(0)", x.commit(0), TornBackups.NONE);
        CHECK.due("abort(2)", x.abort(2), TornBackups.NONE);
        CHECK.due("abort(3)", x.abort(3), TornBackups.BAD);
        for (int number : Steps.WRONG_NUMBERS) {
            CHECK.due("abort(" + number + ")", x.abort(number), TornBackups.BAD);
        }
        x.set(0, 5, 50);
        CHECK.due("commit(0)", x.commit(0), 7);
        CHECK.due("the aborted set", x.get(4), 40);
        CHECK.due("get(5)", x.get(5), 50);
        CHECK.due("commit(1)", x.commit(1), 8);
        CHECK.due("get(4)", x.get(4), 42);
    }

    private static void getAnswers() {
        CHECK.part("promise 5, get");
        TornBackups x = new TornBackups();
        for (int key = 0; key < 32; key++) {
            Steps.put(x, key % 3, key, 1000 + key);
        }
        for (int key = 0; key < 32; key++) {
            CHECK.due("get(" + key + ")", x.get(key), 1000 + key);
        }
        for (int number : Steps.WRONG_NUMBERS) {
            CHECK.due("get(" + number + ")", x.get(number), 0);
        }
        Steps.put(x, 0, 0, Integer.MIN_VALUE);
        CHECK.due("get(0)", x.get(0), Integer.MIN_VALUE);
        x.crash();
        CHECK.due("lost", x.get(0), 0);
    }

    private static void positionCounts() {
        CHECK.part("promise 20, position");
        TornBackups x = new TornBackups();
        Steps.put(x, 0, 0, 1);
        x.set(1, 1, 1);
        x.abort(1);
        CHECK.due("set, commit, set, abort", x.position(), 4);
        x.checkpoint();
        x.sync();
        x.flush(0);
        Steps.wholeBackup(x);
        x.archive();
        x.restore(0, 4);
        CHECK.due("calls without a record", x.position(), 4);
        x.set(2, 2, 2);
        x.crash();
        CHECK.due("one lost, one RESTART", x.position(), 5);
    }
}
