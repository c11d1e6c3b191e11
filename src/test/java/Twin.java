import java.util.function.Consumer;

/**
 * Two objects with the same calls behind them: one is refused a call more, and must answer as the
 * other does from then on. No object gets more than the 512 calls that the document allows.
 */
final class Twin {
    private static final int[] LATER = {0, 1, 4, 11, 25};
    private static final int PROBES = 4;
    private static final int PROBE_STEPS = 12;
    private static final Class<?>[] THROWN = {
        IndexOutOfBoundsException.class, IllegalArgumentException.class, IllegalStateException.class,
    };

    private Twin() {
    }

    private interface Ask {
        int answer();
    }

    /** The call is refused whatever was called ahead of it. */
    static void refusedEver(String name, Class<? extends RuntimeException> due, Consumer<TubeWatch> call) {
        for (int kind = 0; kind < Lives.NAMES.length; kind++) {
            refused(name, due, kind, call);
        }
    }

    static void refused(String name, Class<? extends RuntimeException> due, int kind, Consumer<TubeWatch> call) {
        for (int later : LATER) {
            compare(name, due, kind, call, 0, later);
        }
        for (int probe = 1; probe < PROBES; probe++) {
            compare(name, due, kind, call, probe, PROBE_STEPS);
        }
    }

    private static void compare(String name, Class<? extends RuntimeException> due, int kind,
            Consumer<TubeWatch> call, int probe, int later) {
        TubeWatch spared = Lives.make(kind);
        TubeWatch asked = Lives.make(kind);
        String place = name + " when " + Lives.NAMES[kind];
        Check.thrown(place, due, () -> call.accept(asked));
        String was = life(spared, probe, later);
        String is = life(asked, probe, later);
        Check.due(place + " changed " + was + " to " + is, is.equals(was), true);
    }

    private static String life(TubeWatch x, int probe, int later) {
        StringBuilder text = new StringBuilder();
        probe(text, x, probe);
        if (later > 0) {
            put(text, () -> x.step(later));
        }
        return text.append(answers(x)).toString();
    }

    /** What no question tells is seen by what further calls answer. */
    private static void probe(StringBuilder text, TubeWatch x, int probe) {
        switch (probe) {
            case 1:
                put(text, () -> x.wind(-5));
                for (int i = 0; i < 3; i++) {
                    int fan = i;
                    put(text, () -> x.command(fan, fan - 1));
                    put(text, () -> x.failFan(fan, false));
                }
                put(text, () -> x.people(3, 1));
                put(text, () -> x.act(TubeWatch.FOAM, 0, false));
                put(text, () -> none(() -> x.build(4095, 6)));
                put(text, () -> none(() -> x.fire(6, 200)));
                break;
            case 2:
            case 3:
                put(text, () -> x.feed(probe - 2, false) ? 1 : 0);
                put(text, () -> none(() -> x.fire(6, 200)));
                put(text, () -> x.act(TubeWatch.DAMPER, 0, false));
                break;
            default:
                break;
        }
    }

    private static int none(Runnable call) {
        call.run();
        return 0;
    }

    /** All that can be asked, by some 180 calls. */
    static String answers(TubeWatch x) {
        StringBuilder text = new StringBuilder();
        for (int i = 0; i < 12; i++) {
            for (int what = 0; what < 5; what++) {
                text.append(x.segment(i, what)).append(' ');
            }
        }
        for (int i = 0; i < 30; i++) {
            for (int what = 0; what < 3; what++) {
                int person = i;
                int asked = what;
                put(text, () -> x.person(person, asked));
            }
        }
        for (int i = 0; i < 10; i++) {
            int act = i;
            put(text, () -> x.done(act));
        }
        for (int i = 0; i < 3; i++) {
            text.append(x.fan(i)).append(' ');
        }
        for (int state = 0; state < 5; state++) {
            text.append(x.count(state)).append(' ');
        }
        text.append(x.flow()).append(' ').append(x.alarm()).append(' ');
        text.append(x.gone()).append(' ').append(x.balances());
        return text.toString();
    }

    private static void put(StringBuilder text, Ask ask) {
        try {
            text.append(ask.answer());
        } catch (RuntimeException e) {
            for (int i = 0; i < THROWN.length; i++) {
                text.append(e.getClass() == THROWN[i] ? "!" + i : "");
            }
        }
        text.append(' ');
    }
}
