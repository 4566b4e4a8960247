/** No call throws, whatever its numbers, also far behind the 512th; and 512 records have room. */
public final class LongUseTest {
    private static final Check CHECK = new Check();

    public static void main(String[] args) {
        everyCallARecord();
        wildCalls();
        CHECK.finish();
    }

    private static void everyCallARecord() {
        CHECK.part("512 calls with a record each");
        TornBackups x = new TornBackups();
        for (int call = 1; call <= 512; call += 2) {
            CHECK.due("set", x.set(0, call % 32, call), call);
            CHECK.due("commit", x.commit(0), call + 1);
        }
        TornBackups y = new TornBackups();
        for (int call = 1; call < 512; call++) {
            CHECK.due("crash()", y.crash(), 0);
        }
        CHECK.due("position()", y.position(), 511);
    }

    private static void wildCalls() {
        for (int run = 0; run < 60; run++) {
            CHECK.part("wild run " + run);
            Dice dice = new Dice(1000 + run);
            TornBackups x = new TornBackups();
            for (int call = 0; call < 5000; call++) {
                oneCall(x, dice, run % 3);
            }
            CHECK.due("the run ended", 1, 1);
        }
    }

    /** Crashes are rare in two runs of three, so that the log gets full of other records too. */
    private static void oneCall(TornBackups x, Dice dice, int manner) {
        int kind = dice.below(manner == 0 ? 20 : 400);
        int a = dice.about(3);
        int b = dice.below(20) == 0 ? dice.about(3) : dice.about(600);
        switch (kind) {
            case 0: x.crash(); break;
            case 1: x.commit(a); break;
            case 2: x.abort(a); break;
            case 3: x.get(b); break;
            case 4: x.sync(); break;
            case 5: x.flush(dice.about(8)); break;
            case 6: x.checkpoint(); break;
            case 7: x.backup(); break;
            case 8: x.copy(); break;
            case 9: x.forget(a); break;
            case 10: x.bound(a, b); break;
            case 11: x.archive(); break;
            case 12: x.drop(b / 8); break;
            case 13: x.restore(a, b); break;
            case 14: x.restored(b); break;
            case 15: x.replayed(); break;
            case 16: x.reach(a); break;
            case 17: x.position(); break;
            case 18: x.dirty(); break;
            default: moreCalls(x, dice, a); break;
        }
    }

    private static void moreCalls(TornBackups x, Dice dice, int transaction) {
        switch (dice.below(4)) {
            case 0: x.commit(transaction); break;
            case 1: x.copy(); break;
            case 2: x.archive(); break;
            default: x.set(transaction, dice.about(32), dice.below(100)); break;
        }
    }
}
