/** Objects in the states in which a call may be refused: each call of it makes the same object anew. */
final class Lives {
    static final int EMPTY = 0;
    static final int READY = 1;
    static final int LATE = 2;
    static final int FULL = 3;
    static final String[] NAMES = {"empty", "ready", "late", "full"};

    private Lives() {
    }

    static TubeWatch make(int kind) {
        switch (kind) {
            case EMPTY:
                return new TubeWatch();
            case READY:
                return ready();
            case LATE:
                return late();
            default:
                return full();
        }
    }

    /** Some of everything, and no step done: doors in 0, 2 and 5, three persons, five acts. */
    static TubeWatch ready() {
        TubeWatch x = new TubeWatch();
        x.build(1 | 1 << 2 | 1 << 5, 7);
        x.people(6, 2);
        x.people(1, 1);
        x.wind(-18);
        x.fire(6, 90);
        x.feed(1, false);
        x.failFan(2, true);
        x.failDoor(2, true);
        x.failDetector(5, 1, true);
        x.command(0, 1);
        x.act(TubeWatch.TELL, 0, false);
        x.act(TubeWatch.DOORS, 1, false);
        x.act(TubeWatch.DAMPER, 2, false);
        x.act(TubeWatch.STOP, 1, true);
        x.act(TubeWatch.FOAM, 20, true);
        return x;
    }

    /** As ready, in the step behind the one that gave the alarm: the chart is not at its end. */
    static TubeWatch late() {
        TubeWatch x = ready();
        for (int i = 0; i < 30 && x.alarm() == TubeWatch.NONE; i++) {
            x.step(1);
        }
        return x;
    }

    /** No room is left: a door in each segment, 30 persons, 10 acts, a fire. */
    static TubeWatch full() {
        TubeWatch x = new TubeWatch();
        x.build(4095, 0);
        x.people(5, 30);
        x.fire(0, 200);
        for (int i = 0; i < 10; i++) {
            x.act(i % 8, i / 4, i % 4 == 1);
        }
        return x;
    }
}
