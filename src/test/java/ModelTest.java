/** Promises 1 to 21 at once: made-up runs of some 500 calls, each answer against the model's. */
public final class ModelTest {
    private static final Check CHECK = new Check();
    private static final int RUNS = 600;
    /** What a run does before its end, which takes up to 110 calls more. */
    private static final int CALLS = 400;

    public static void main(String[] args) {
        int restores = 0;
        for (int run = 0; run < RUNS && CHECK.wrong() == 0; run++) {
            CHECK.part("run " + run);
            restores += new ModelTest(run).play();
        }
        CHECK.part("all runs");
        System.out.println(restores + " restores in " + RUNS + " runs");
        CHECK.due("restores were done in plenty", restores > 2 * RUNS, true);
        CHECK.finish();
    }

    private final Dice dice;
    private final TornBackups x = new TornBackups();
    private final Model model = new Model();
    private final int keys;
    private final int crashes;
    private final int flushes;
    private int leastSegment;
    private int calls;
    private int restores;

    /** Runs differ in how many keys they use and how often they crash and flush. */
    private ModelTest(int run) {
        dice = new Dice(run);
        keys = run % 3 == 0 ? 32 : 2 + dice.below(12);
        crashes = dice.below(4);
        flushes = 1 + dice.below(12);
    }

    private int play() {
        while (calls < CALLS && CHECK.wrong() == 0) {
            int kind = dice.below(100 + flushes);
            if (dice.below(300) < crashes) {
                due("crash()", x.crash(), model.crash());
            }
            if (kind < 60) {
                write(kind);
            } else if (kind < 100) {
                keep(kind);
            } else {
                int page = dice.about(8);
                due("flush(" + page + ")", x.flush(page), model.flush(page));
            }
            if (dice.below(25) == 0) {
                look();
            }
        }
        for (int number = 0; number < 3; number++) {
            restoreAsFarAsItGoes(number);
        }
        CHECK.due("calls of the run at most 512", calls <= 512, true);
        return restores;
    }

    private void write(int kind) {
        int transaction = dice.about(3);
        if (kind < 36) {
            int key = dice.below(30) == 0 ? dice.about(32) : dice.below(keys) * 31 / (keys - 1);
            int value = dice.below(9) == 0 ? dice.about(3) : 1 + dice.below(1000);
            String call = "set(" + transaction + ", " + key + ", " + value + ")";
            due(call, x.set(transaction, key, value), model.set(transaction, key, value));
        } else if (kind < 54) {
            due("commit(" + transaction + ")", x.commit(transaction), model.commit(transaction));
        } else {
            due("abort(" + transaction + ")", x.abort(transaction), model.abort(transaction));
        }
    }

    private void keep(int kind) {
        if (kind < 64) {
            due("sync()", x.sync(), model.sync());
        } else if (kind < 65) {
            due("checkpoint()", x.checkpoint(), model.checkpoint());
        } else if (kind < 70) {
            backup();
        } else if (kind < 80) {
            copy(1 + dice.below(5));
        } else if (kind < 81) {
            forget(dice.about(3));
        } else if (kind < 88) {
            archive();
        } else if (kind < 89) {
            drop(dice.about(1 + model.position() / 8));
        } else {
            restore(numberOfABackup());
        }
    }

    /** Mostly of one that is there. */
    private int numberOfABackup() {
        int number = dice.about(3);
        return model.bound(number, 0) < 0 && dice.below(8) > 0 ? 0 : number;
    }

    private void copy(int pages) {
        int answer = pages;
        for (int i = 0; i < pages && answer > 0; i++) {
            answer = model.copy();
            due("copy()", x.copy(), answer);
        }
    }

    /** Without room made for new ones, a run would go on with backups that reach nothing. */
    private void backup() {
        int answer = model.backup();
        due("backup()", x.backup(), answer);
        if (answer == Model.FULL) {
            forget(dice.below(3));
        }
    }

    private void forget(int number) {
        due("forget(" + number + ")", x.forget(number), model.forget(number));
    }

    /** A full archive is emptied from below, or a long run would come to no restores. */
    private void archive() {
        int answer = model.archive();
        due("archive()", x.archive(), answer);
        if (answer == Model.FULL) {
            for (int i = 0; i < 5; i++) {
                drop(leastSegment + i);
            }
            leastSegment += 5;
        }
    }

    private void drop(int segment) {
        due("drop(" + segment + ")", x.drop(segment), model.drop(segment));
    }

    private void restore(int number) {
        int reach = model.reach(number);
        due("reach(" + number + ")", x.reach(number), reach);
        int position = reach;
        if (dice.below(3) > 0) {
            int start = Math.max(0, model.bound(number, dice.below(2)));
            position = start + dice.about(Math.max(1, model.position() + 2 - start));
        }
        int answer = model.restore(number, position);
        due("restore(" + number + ", " + position + ")", x.restore(number, position), answer);
        if (answer == 0) {
            restores++;
            for (int i = 0; i < 4; i++) {
                lookAtRestored(dice.below(keys) * 31 / (keys - 1));
            }
        }
    }

    private void restoreAsFarAsItGoes(int number) {
        int reach = model.reach(number);
        due("reach(" + number + ")", x.reach(number), reach);
        int answer = model.restore(number, reach);
        due("restore(" + number + ", " + reach + ")", x.restore(number, reach), answer);
        due("replayed()", x.replayed(), model.replayed());
        for (int key = 0; key < 32 && answer == 0; key++) {
            lookAtRestored(key);
        }
    }

    private void lookAtRestored(int key) {
        due("restored(" + key + ")", x.restored(key), model.restored(key));
    }

    private void look() {
        int key = dice.about(32);
        due("get(" + key + ")", x.get(key), model.get(key));
        lookAtRestored(key);
        due("replayed()", x.replayed(), model.replayed());
        due("position()", x.position(), model.position());
        due("dirty()", x.dirty(), model.dirty());
        int number = dice.about(3);
        int which = dice.about(2);
        due("bound(" + number + ", " + which + ")", x.bound(number, which), model.bound(number, which));
    }

    private void due(String call, int got, int want) {
        calls++;
        CHECK.due("call " + calls + ", " + call, got, want);
    }

    private void due(String call, boolean got, boolean want) {
        due(call, got ? 1 : 0, want ? 1 : 0);
    }
}
