import java.util.Arrays;

/** The bounds that the document names in the chart: delays, acts by hand, how many, and what each act does. */
public final class EdgeChartTest {
    private static final int ALARM = Scene.ALARM_STEP;

    public static void main(String[] args) {
        delayOfNoughtIsDoneAtOnce();
        delayOfTwenty();
        failedDelayOfNought();
        failedDelayOfTwenty();
        failedOnesMakeTheNextWait();
        tenInOneStep();
        tenOfTheLongestWait();
        chartWithoutActs();
        noAlarmNoActs();
        actsOfTheAlarmStepReachPersonsAlone();
        theLastCommandHolds();
        doorsThatFailAreLeftToTheNextDoors();
        toldOnesAreThoseWhoComeLater();
        eachActDoesItsOwnAlone();
        actsByHandDoTheSame();
        Check.end();
    }

    private static TubeWatch begun() {
        return Scene.calmFire(6, 200);
    }

    /** Each act is done in its step, and in none before: looked at ahead of it, behind it, and far behind. */
    private static void doneIn(TubeWatch x, int... due) {
        int reached = 0;
        for (int i = 0; i < due.length; i++) {
            if (reached <= due[i]) {
                reached = goOn(x, due[i] - reached, reached);
                Check.due("act " + i + " ahead of its step", x.done(i), TubeWatch.NONE);
                reached = x.step(1);
            }
            Check.due("act " + i + " behind its step", x.done(i), due[i]);
        }
        x.step(100);
        for (int i = 0; i < due.length; i++) {
            Check.due("act " + i + " far behind", x.done(i), due[i]);
        }
    }

    private static int goOn(TubeWatch x, int steps, int reached) {
        return steps > 0 ? x.step(steps) : reached;
    }

    // ---- "each with a delay, 0 to 20 steps", "at once if that is 0"

    private static void delayOfNoughtIsDoneAtOnce() {
        TubeWatch x = begun();
        x.act(TubeWatch.OFF, 0, false);
        x.act(TubeWatch.OFF, 1, false);
        x.act(TubeWatch.OFF, 0, false);
        doneIn(x, ALARM, ALARM + 1, ALARM + 1);
    }

    private static void delayOfTwenty() {
        TubeWatch x = begun();
        x.act(TubeWatch.OFF, 20, false);
        x.act(TubeWatch.OFF, 20, false);
        doneIn(x, ALARM + 20, ALARM + 40);
    }

    // ---- "waits twice its delay and 3 more steps"

    private static void failedDelayOfNought() {
        TubeWatch x = begun();
        x.act(TubeWatch.OFF, 0, true);
        x.act(TubeWatch.OFF, 0, true);
        doneIn(x, ALARM + 3, ALARM + 6);
    }

    private static void failedDelayOfTwenty() {
        TubeWatch x = begun();
        x.act(TubeWatch.OFF, 20, true);
        x.act(TubeWatch.OFF, 1, true);
        doneIn(x, ALARM + 43, ALARM + 48);
    }

    private static void failedOnesMakeTheNextWait() {
        TubeWatch x = begun();
        x.act(TubeWatch.OFF, 2, true);
        x.act(TubeWatch.OFF, 0, false);
        x.act(TubeWatch.OFF, 2, false);
        doneIn(x, ALARM + 7, ALARM + 7, ALARM + 9);
    }

    // ---- "a row of at most 10 acts", "several can be done in one step"

    private static void tenInOneStep() {
        TubeWatch x = begun();
        for (int i = 0; i < 10; i++) {
            x.act(TubeWatch.OFF, 0, false);
        }
        int[] due = new int[10];
        Arrays.fill(due, ALARM);
        doneIn(x, due);
        TubeWatch late = begun();
        late.act(TubeWatch.OFF, 5, false);
        for (int i = 1; i < 10; i++) {
            late.act(TubeWatch.OFF, 0, false);
        }
        Arrays.fill(due, ALARM + 5);
        doneIn(late, due);
    }

    private static void tenOfTheLongestWait() {
        TubeWatch x = begun();
        int[] due = new int[10];
        for (int i = 0; i < 10; i++) {
            x.act(TubeWatch.OFF, 20, true);
            due[i] = ALARM + 43 * (i + 1);
        }
        doneIn(x, due);
    }

    private static void chartWithoutActs() {
        TubeWatch x = begun();
        x.build(1, 6);
        x.people(0, 1);
        x.command(0, 1);
        x.step(ALARM + 1);
        Check.due("an alarm without acts", x.alarm(), 6);
        Check.noIndex("no act", () -> x.done(0));
        Check.due("nobody is told", x.person(0, 0), TubeWatch.SITS);
        Check.due("no door opens", x.segment(0, 4), 0);
        Check.due("the command stays", x.command(0, 1), 1);
    }

    private static void noAlarmNoActs() {
        TubeWatch x = begun();
        x.act(TubeWatch.TELL, 0, false);
        x.act(TubeWatch.TELL, 0, true);
        Scene.failDetectors(x, 6, true);
        x.step(100);
        Check.due("no alarm", x.alarm(), TubeWatch.NONE);
        Check.due("no act", x.done(0), TubeWatch.NONE);
        Check.due("no act by hand", x.done(1), TubeWatch.NONE);
    }

    // ---- "From the step in which the alarm is given on": behind smoke and fans, ahead of persons

    private static void actsOfTheAlarmStepReachPersonsAlone() {
        TubeWatch x = begun();
        x.people(0, 1);
        x.act(TubeWatch.TELL, 0, false);
        x.act(TubeWatch.RIGHT, 0, false);
        x.act(TubeWatch.DAMPER, 0, false);
        x.act(TubeWatch.STOP, 0, false);
        x.step(ALARM + 1);
        Check.due("told in the step", x.person(0, 0), TubeWatch.READY);
        Check.due("fans turn in the next", x.fan(0), 0);
        Check.due("the damper draws in the next", x.gone(), 0);
        Check.due("the flow changes in the next", x.flow(), 0);
        x.step(1);
        Check.due("fans turn then", x.fan(0), 1);
        Check.due("the damper draws then", x.gone() > 0, true);
        Check.due("the flow changes then", x.flow(), 1000);
    }

    private static void theLastCommandHolds() {
        int[] kinds = {TubeWatch.LEFT, TubeWatch.RIGHT, TubeWatch.OFF};
        int[] states = {-1, 1, 0};
        for (int first = 0; first < 3; first++) {
            for (int last = 0; last < 3; last++) {
                TubeWatch x = begun();
                x.act(kinds[first], 0, false);
                x.act(kinds[last], 0, false);
                x.step(ALARM + 2);
                for (int fan = 0; fan < 3; fan++) {
                    Check.due("fan " + fan, x.fan(fan), states[last]);
                    Check.due("command of " + fan, x.command(fan, 0), states[last]);
                }
                x.step(10);
                Check.due("a command behind the chart holds", x.fan(0), 0);
            }
        }
    }

    // ---- "all doors are open, but those that fail"

    private static void doorsThatFailAreLeftToTheNextDoors() {
        TubeWatch x = begun();
        x.build(4095, 0);
        x.failDoor(0, true);
        x.failDoor(11, true);
        x.act(TubeWatch.DOORS, 0, false);
        x.act(TubeWatch.DOORS, 5, false);
        x.step(ALARM);
        for (int i = 0; i < 12; i++) {
            Check.due("a door ahead of its act", x.segment(i, 4), 0);
        }
        x.step(1);
        for (int i = 0; i < 12; i++) {
            Check.due("door " + i, x.segment(i, 4), i == 0 || i == 11 ? 0 : 1);
        }
        Check.due("mended", x.failDoor(0, false), false);
        x.step(4);
        Check.due("a mended door waits", x.segment(0, 4), 0);
        x.step(1);
        Check.due("a mended door opens by the next act", x.segment(0, 4), 1);
        Check.due("one that fails yet does not", x.segment(11, 4), 0);
        Check.due("it is shut as it is mended", x.failDoor(11, false), false);
    }

    // ---- "all persons are told, also those who come later"

    private static void toldOnesAreThoseWhoComeLater() {
        TubeWatch x = begun();
        x.act(TubeWatch.TELL, 0, false);
        x.people(0, 1);
        x.step(ALARM);
        Check.due("not told ahead of the act", x.person(0, 0), TubeWatch.SITS);
        x.step(60);
        x.people(0, 1);
        Check.due("sits as one comes", x.person(1, 0), TubeWatch.SITS);
        x.step(1);
        Check.due("is told as one comes", x.person(1, 0), TubeWatch.READY);
    }

    // ---- what each act does, and nothing else

    /** Fans are commanded 1 -1 1 first; behind the act a step is done, then all that acts could do is asked. */
    private static void eachActDoesItsOwnAlone() {
        for (int kind = TubeWatch.STOP; kind <= TubeWatch.FOAM; kind++) {
            didItsOwn(kind, false);
        }
    }

    private static void actsByHandDoTheSame() {
        for (int kind = TubeWatch.STOP; kind <= TubeWatch.FOAM; kind++) {
            didItsOwn(kind, true);
        }
    }

    private static void didItsOwn(int kind, boolean fails) {
        TubeWatch x = begun();
        x.build(2, 6);
        x.people(0, 1);
        for (int fan = 0; fan < 3; fan++) {
            x.failFan(fan, true);
            x.command(fan, fan % 2 == 0 ? 1 : -1);
        }
        x.act(kind, 0, fails);
        int done = ALARM + (fails ? 3 : 0);
        x.step(done + 1);
        int before = Scene.allSmoke(x);
        x.step(1);
        int age = done + 1;
        int power = 1 + age * age / 4;
        String by = " by act " + kind + (fails ? " by hand" : "");
        Check.due("flow" + by, x.flow(), kind == TubeWatch.STOP ? -125 : 0);
        Check.due("person" + by, x.person(0, 0), kind == TubeWatch.TELL ? TubeWatch.READY : TubeWatch.SITS);
        Check.due("door" + by, x.segment(1, 4), kind == TubeWatch.DOORS ? 1 : 0);
        Check.due("gone" + by, x.gone() > 0, kind == TubeWatch.DAMPER);
        Check.due("power" + by, Scene.allSmoke(x) - before, kind == TubeWatch.FOAM ? power / 2 : power);
        for (int fan = 0; fan < 3; fan++) {
            int own = fan % 2 == 0 ? 1 : -1;
            int due = kind == TubeWatch.LEFT ? -1 : kind == TubeWatch.RIGHT ? 1 : kind == TubeWatch.OFF ? 0 : own;
            Check.due("command of " + fan + by, x.command(fan, 0), due);
        }
    }
}
