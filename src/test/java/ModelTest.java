/**
 * Compares runs of calls, fine and wrong ones, with the slow model; a fixed row of numbers chooses.
 * No object gets more than the 512 calls that the document allows.
 */
public final class ModelTest {
    private static final int RUNS = 10000;
    private static final int MOST_CALLS = 512;
    private static final int ASKS_AT_LAST = 193;
    private static final int ASKS_BETWEEN = 7;
    private static final String[] NAMES = {
        "people", "wind", "fire", "feed", "failFan", "failDoor", "failDetector", "act", "command", "step", "step",
        "step", "step", "build",
    };
    private static final String[] ASKS = {
        "segment", "segment", "segment", "person", "person", "person", "done", "fan", "count", "flow", "alarm", "gone",
        "balances",
    };

    private static long seed = 20261119L;
    private static int calls = 0;

    private static int next(int from, int to) {
        seed = seed * 6364136223846793005L + 1442695040888963407L;
        return from + (int) ((seed >>> 33) % (to - from + 1));
    }

    public static void main(String[] args) {
        for (int run = 0; run < RUNS; run++) {
            oneRun(run);
        }
        Check.end();
    }

    private static void oneRun(int run) {
        TubeWatch x = new TubeWatch();
        Model model = new Model();
        calls = 0;
        begin(run, x, model);
        while (calls + 1 + ASKS_BETWEEN + ASKS_AT_LAST <= MOST_CALLS) {
            String name = NAMES[next(0, NAMES.length - 1)];
            int a = first(name);
            int b = second(name);
            same(run, x, model, name, a, b, next(0, 3) > 0 != name.startsWith("fail"));
            for (int i = 0; i < ASKS_BETWEEN; i++) {
                compareOne(run, x, model);
            }
        }
        compareAll(run, x, model);
        Check.due("calls of run " + run + " are " + calls, calls <= MOST_CALLS, true);
    }

    private static void compareOne(int run, TubeWatch x, Model model) {
        String name = ASKS[next(0, ASKS.length - 1)];
        int most = name.equals("person") ? 31 : name.equals("segment") ? 12 : name.equals("done") ? 10 : 5;
        same(run, x, model, name, next(0, 19) == 0 ? -1 : next(0, most), next(0, 19) == 0 ? next(-1, 5) : next(0, 2), false);
    }

    /** Most runs begin with doors, persons, a fire and a chart, so that much happens in them. */
    private static void begin(int run, TubeWatch x, Model model) {
        if (next(0, 4) == 0) {
            return;
        }
        same(run, x, model, "build", next(0, 1) * next(0, 4095), next(0, 11), false);
        for (int i = next(0, 6); i > 0; i--) {
            same(run, x, model, "people", next(0, 11), next(1, 5), false);
        }
        same(run, x, model, "fire", next(0, 11), next(0, 1) == 0 ? next(1, 20) : next(1, 200), false);
        for (int i = next(0, 10); i > 0; i--) {
            same(run, x, model, "act", next(0, 7), next(0, 1) * next(0, 6), next(0, 3) == 0);
        }
    }

    private static int first(String name) {
        switch (name) {
            case "build":
                return next(0, 9) == 0 ? next(-2, 5000) : next(0, 4095);
            case "wind":
                return next(0, 2) == 0 ? -5 : next(-41, 41);
            case "feed":
                return next(0, 9) == 0 ? next(-1, 2) : next(0, 1);
            case "failFan":
            case "command":
                return next(0, 9) == 0 ? next(-1, 3) : next(0, 2);
            case "act":
                return next(-1, 8);
            case "step":
                return next(0, 19) == 0 ? next(-1, 101) : next(1, 8);
            default:
                return next(0, 9) == 0 ? next(-2, 13) : next(0, 11);
        }
    }

    private static int second(String name) {
        switch (name) {
            case "build":
                return next(-1, 12);
            case "people":
                return next(0, 9) == 0 ? next(-1, 32) : next(1, 4);
            case "fire":
                return next(0, 4) == 0 ? next(-1, 202) : next(1, 30);
            case "failDetector":
                return next(0, 9) == 0 ? next(-1, 3) : next(0, 2);
            case "act":
                return next(0, 2) == 0 ? next(-1, 21) : next(0, 3);
            default:
                return next(0, 9) == 0 ? next(-2, 2) : next(-1, 1);
        }
    }

    private static void compareAll(int run, TubeWatch x, Model model) {
        for (int i = 0; i < 12; i++) {
            for (int what = 0; what < 5; what++) {
                same(run, x, model, "segment", i, what, false);
            }
        }
        for (int i = 0; i <= 30; i++) {
            for (int what = 0; what < 3; what++) {
                same(run, x, model, "person", i, what, false);
            }
        }
        for (int i = -1; i <= 10; i++) {
            same(run, x, model, "done", i, 0, false);
            same(run, x, model, "fan", i, 0, false);
            same(run, x, model, "count", i, 0, false);
        }
        for (String name : new String[] {"flow", "alarm", "gone", "balances"}) {
            same(run, x, model, name, 0, 0, false);
        }
    }

    private static void same(int run, TubeWatch x, Model model, String name, int a, int b, boolean c) {
        calls++;
        long due = answerOf(() -> model.call(name, a, b, c));
        long got = answerOf(() -> call(x, name, a, b, c));
        if (due != got) {
            Check.due("run " + run + ": " + name + "(" + a + ", " + b + ", " + c + ")", got, due);
        } else {
            Check.due(name, got, due);
        }
    }

    private interface Call {
        long answer();
    }

    private static final Class<?>[] THROWN = {
        IndexOutOfBoundsException.class, IllegalArgumentException.class, IllegalStateException.class,
    };

    /** An exception answers with a number that no call answers with. */
    private static long answerOf(Call call) {
        try {
            return call.answer();
        } catch (RuntimeException e) {
            for (int i = 0; i < THROWN.length; i++) {
                if (e.getClass() == THROWN[i]) {
                    return (1L << 40) + i;
                }
            }
            return (1L << 40) + 9;
        }
    }

    private static long call(TubeWatch x, String name, int a, int b, boolean c) {
        switch (name) {
            case "build":
                x.build(a, b);
                return 0;
            case "people":
                return x.people(a, b);
            case "wind":
                return x.wind(a);
            case "fire":
                x.fire(a, b);
                return 0;
            case "feed":
                return x.feed(a, c) ? 1 : 0;
            case "failFan":
                return x.failFan(a, c);
            case "failDoor":
                return x.failDoor(a, c) ? 1 : 0;
            case "failDetector":
                x.failDetector(a, b, c);
                return 0;
            case "act":
                return x.act(a, b, c);
            case "command":
                return x.command(a, b);
            case "step":
                return x.step(a);
            default:
                return ask(x, name, a, b);
        }
    }

    private static long ask(TubeWatch x, String name, int a, int b) {
        switch (name) {
            case "segment":
                return x.segment(a, b);
            case "flow":
                return x.flow();
            case "fan":
                return x.fan(a);
            case "alarm":
                return x.alarm();
            case "done":
                return x.done(a);
            case "person":
                return x.person(a, b);
            case "count":
                return x.count(a);
            case "gone":
                return x.gone();
            default:
                return x.balances() ? 1 : 0;
        }
    }
}
