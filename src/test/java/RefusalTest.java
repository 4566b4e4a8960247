import java.util.ArrayList;
import java.util.List;
import java.util.Map;
import java.util.TreeMap;
import java.util.function.Consumer;

/**
 * A refused call (an answer below 0, false, or flush of a clean page) and a call that only asks leave
 * everything as it was: in made-up states no later call tells whether it was made.
 */
public final class RefusalTest {
    private static final Check CHECK = new Check();
    private static final int STATES = 90;
    private static final int[] SEGMENTS = {-1, 0, 1, 5, 9, 10, 12, 63, 64, Integer.MIN_VALUE, Integer.MAX_VALUE};

    private interface Call {
        int on(TornBackups x);
    }

    private static final class Named {
        final String name;
        final Call call;
        final boolean asks;

        Named(String name, Call call, boolean asks) {
            this.name = name;
            this.call = call;
            this.asks = asks;
        }

        String method() {
            return name.substring(0, name.indexOf('('));
        }
    }

    private final Map<String, Integer> seen = new TreeMap<>();
    private final List<Named> calls = new ArrayList<>();

    public static void main(String[] args) {
        RefusalTest test = new RefusalTest();
        for (int state = 0; state < STATES && CHECK.wrong() == 0; state++) {
            int number = state;
            CHECK.part("state " + state);
            test.tryAll(x -> play(x, number));
        }
        test.everyRefusalWasSeen();
        CHECK.finish();
    }

    /** Some 20 to 280 calls that lead to all kinds of states; the same number always leads to the same. */
    private static void play(TornBackups x, int state) {
        Dice dice = new Dice(5000 + state);
        int count = 20 + 40 * (state % 6);
        for (int i = 0; i < count; i++) {
            int kind = dice.below(100);
            if (kind < 40) {
                x.set(dice.below(3), dice.below(32), 1 + dice.below(99));
            } else if (kind < 60) {
                x.commit(dice.below(3));
            } else if (kind < 63) {
                x.abort(dice.below(3));
            } else if (kind < 70) {
                x.sync();
            } else if (kind < 74) {
                x.flush(dice.below(8));
            } else if (kind < 78) {
                x.backup();
            } else if (kind < 86) {
                Steps.copyPages(x, 1 + dice.below(5));
            } else if (kind < 94) {
                x.archive();
            } else if (kind < 95 && state % 4 == 0) {
                x.drop(dice.below(12));
            } else if (kind < 96 && state % 3 == 0) {
                x.forget(dice.below(3));
            } else if (kind < 97 && state % 5 == 0) {
                x.crash();
            } else {
                int number = dice.below(3);
                x.restore(number, x.reach(number));
            }
        }
    }

    private void tryAll(Consumer<TornBackups> steps) {
        List<String> untouched = Sight.behind(steps);
        TornBackups x = new TornBackups();
        steps.accept(x);
        listCalls(x);
        for (Named named : calls) {
            TornBackups y = new TornBackups();
            steps.accept(y);
            int answer = named.call.on(y);
            if (named.asks || answer < 0) {
                seen.merge(named.method() + " " + (named.asks ? 0 : answer), 1, Integer::sum);
                List<String> touched = Sight.behind(steps.andThen(z -> named.call.on(z)));
                CHECK.due(named.name + " changes nothing: " + difference(untouched, touched), touched.equals(untouched), true);
            }
        }
    }

    private static String difference(List<String> before, List<String> behind) {
        for (int i = 0; i < Math.min(before.size(), behind.size()); i++) {
            if (!before.get(i).equals(behind.get(i))) {
                return before.get(i) + " without it, " + behind.get(i) + " with it";
            }
        }
        return "";
    }

    private void change(String name, Call call) {
        calls.add(new Named(name, call, false));
    }

    private void ask(String name, Call call) {
        calls.add(new Named(name, call, true));
    }

    /** Calls that may be refused or only ask; flush's 0 and false count as -1 here. */
    private void listCalls(TornBackups now) {
        calls.clear();
        for (int i = -1; i <= 3; i++) {
            int number = i;
            change("set(" + number + ", 0, 5)", x -> x.set(number, 0, 5));
            change("set(" + number + ", 32, 5)", x -> x.set(number, 32, 5));
            change("set(" + number + ", -1, 5)", x -> x.set(number, -1, 5));
            change("commit(" + number + ")", x -> x.commit(number));
            change("abort(" + number + ")", x -> x.abort(number));
            change("forget(" + number + ")", x -> x.forget(number) ? 1 : -1);
            ask("bound(" + number + ", 0)", x -> x.bound(number, 0));
            ask("bound(" + number + ", 2)", x -> x.bound(number, 2));
            ask("reach(" + number + ")", x -> x.reach(number));
            listRestores(now, number);
        }
        for (int i = -1; i <= 8; i++) {
            int page = i;
            change("flush(" + page + ")", x -> x.flush(page) - (page >= 0 && page < 8 ? 1 : 0));
        }
        for (int segment : SEGMENTS) {
            change("drop(" + segment + ")", x -> x.drop(segment) ? 1 : -1);
        }
        change("backup()", TornBackups::backup);
        change("copy()", TornBackups::copy);
        change("archive()", TornBackups::archive);
        ask("get(31)", x -> x.get(31));
        ask("get(32)", x -> x.get(32));
        ask("restored(31)", x -> x.restored(31));
        ask("restored(-1)", x -> x.restored(-1));
        ask("replayed()", TornBackups::replayed);
        ask("position()", TornBackups::position);
        ask("dirty()", TornBackups::dirty);
    }

    private void listRestores(TornBackups now, int number) {
        int start = now.bound(number, 0);
        int end = now.bound(number, 1);
        int reach = now.reach(number);
        int[] positions = {-1, 0, start, end - 1, end + 1, reach - 1, reach + 1, now.position() + 1, Integer.MAX_VALUE};
        for (int position : positions) {
            change("restore(" + number + ", " + position + ")", x -> x.restore(number, position));
        }
    }

    private void everyRefusalWasSeen() {
        CHECK.part("refusals in all states");
        String[] due = {"set -1", "set -2", "commit -1", "commit -3", "abort -1", "abort -3", "flush -1", "backup -1",
            "backup -2", "copy -3", "forget -1", "archive -3", "archive -2", "drop -1", "restore -1", "restore -4",
            "restore -5", "restore -6"};
        for (String refusal : due) {
            CHECK.due(refusal + " was seen several times", seen.getOrDefault(refusal, 0) >= 5, true);
        }
        System.out.println("refused or asked: " + seen);
    }
}
