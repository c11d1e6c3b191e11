/** Promises 10 to 12: the chart, commands and how steps are counted. */
public final class ChartTest {
    public static void main(String[] args) {
        actsAreNumbered();
        actsWaitOneBehindTheOther();
        failedActsAreDoneByHand();
        stopStopsTraffic();
        tellTells();
        fansAreCommandedByActs();
        foamHalvesThePower();
        foamEndsWithTheWater();
        foamWantsPower();
        commandAnswersWhatItWas();
        stepsAreCounted();
        Check.end();
    }

    // ---- promise 10

    private static void actsAreNumbered() {
        TubeWatch x = new TubeWatch();
        for (int i = 0; i < 10; i++) {
            Check.due("act " + i, x.act(i % 8, 2 * i, i % 2 == 0), i);
            Check.due("done(" + i + ")", x.done(i), TubeWatch.NONE);
        }
        Check.noState("an eleventh act", () -> x.act(TubeWatch.STOP, 0, false));
        Check.noArgument("an eleventh act of a wrong kind", () -> x.act(8, 0, false));
        Check.noIndex("done(10)", () -> x.done(10));
    }

    private static void actsWaitOneBehindTheOther() {
        TubeWatch x = Scene.calmFire(6, 200);
        x.act(TubeWatch.OFF, 1, false);
        x.act(TubeWatch.OFF, 0, false);
        x.act(TubeWatch.OFF, 20, false);
        x.act(TubeWatch.OFF, 2, false);
        int[] due = {Scene.ALARM_STEP + 1, Scene.ALARM_STEP + 1, Scene.ALARM_STEP + 21, Scene.ALARM_STEP + 23};
        followDoneSteps(x, due);
    }

    private static void failedActsAreDoneByHand() {
        TubeWatch x = Scene.calmFire(6, 200);
        x.act(TubeWatch.STOP, 0, true);
        x.act(TubeWatch.STOP, 1, true);
        x.act(TubeWatch.STOP, 0, false);
        x.act(TubeWatch.STOP, 20, true);
        int[] due = {Scene.ALARM_STEP + 3, Scene.ALARM_STEP + 8, Scene.ALARM_STEP + 8, Scene.ALARM_STEP + 51};
        followDoneSteps(x, due);
    }

    /** An act is done in its step, NONE ahead of it, and the same ever after. */
    private static void followDoneSteps(TubeWatch x, int[] due) {
        for (int step = 0; step < 70; step++) {
            x.step(1);
            for (int i = 0; i < due.length; i++) {
                Check.due("done(" + i + ") behind step " + step, x.done(i), step < due[i] ? TubeWatch.NONE : due[i]);
            }
        }
    }

    private static TubeWatch withAct(int kind, boolean fails) {
        TubeWatch x = Scene.calmFire(6, 200);
        x.act(kind, 0, fails);
        x.step(Scene.ALARM_STEP + 1 + (fails ? 3 : 0));
        return x;
    }

    private static void stopStopsTraffic() {
        for (boolean fails : new boolean[] {false, true}) {
            TubeWatch x = withAct(TubeWatch.STOP, fails);
            Check.due("the flow of the step of STOP", x.flow(), 0);
            x.step(1);
            Check.due("the flow without traffic", x.flow(), -125);
            x.step(1);
            Check.due("the flow without traffic then", x.flow(), -218);
        }
    }

    private static void tellTells() {
        TubeWatch x = Scene.calmFire(6, 200);
        x.people(0, 2);
        x.act(TubeWatch.TELL, 1, false);
        x.step(8);
        Check.due("not told yet", x.count(TubeWatch.SITS), 2);
        x.step(1);
        Check.due("told", x.count(TubeWatch.READY), 2);
        x.people(1, 1);
        Check.due("one who comes later sits", x.person(2, 0), TubeWatch.SITS);
        x.step(1);
        Check.due("one who comes later is told", x.person(2, 0), TubeWatch.READY);
    }

    private static void fansAreCommandedByActs() {
        int[] kinds = {TubeWatch.LEFT, TubeWatch.RIGHT, TubeWatch.OFF};
        int[] states = {-1, 1, 0};
        for (int k = 0; k < 3; k++) {
            TubeWatch x = Scene.calmFire(6, 200);
            for (int i = 0; i < 3; i++) {
                x.command(i, i - 1);
            }
            x.failFan(1, true);
            x.act(kinds[k], 0, false);
            x.step(Scene.ALARM_STEP + 1);
            for (int i = 0; i < 3; i++) {
                Check.due("commanded by act " + kinds[k], x.command(i, states[k]), states[k]);
            }
            x.step(2);
            Check.due("fan 0 by act " + kinds[k], x.fan(0), states[k]);
            Check.due("fan 1 fails", x.fan(1), 0);
            Check.due("fan 2 by act " + kinds[k], x.fan(2), states[k]);
        }
    }

    private static void foamHalvesThePower() {
        TubeWatch x = withAct(TubeWatch.FOAM, false);
        Check.due("smoke of the step of FOAM", x.segment(6, 0), 35);
        x.step(1);
        Check.due("smoke with foam", x.segment(6, 0), 39);
        Check.due("heat with foam", x.segment(6, 1), 21);
    }

    private static void foamEndsWithTheWater() {
        TubeWatch x = withAct(TubeWatch.FOAM, false);
        x.step(29);
        int before = Scene.allSmoke(x);
        x.step(1);
        int withFoam = Scene.allSmoke(x);
        x.step(1);
        Check.due("the thirtieth step with foam", withFoam - before, 100);
        Check.due("the step without water", Scene.allSmoke(x) - withFoam, 200);
    }

    private static void foamWantsPower() {
        TubeWatch x = withAct(TubeWatch.FOAM, false);
        x.step(22);
        x.feed(0, false);
        x.feed(1, false);
        int before = Scene.allSmoke(x);
        x.step(10);
        Check.due("no foam without power", Scene.allSmoke(x) - before, 2000);
        x.feed(1, true);
        before = Scene.allSmoke(x);
        x.step(8);
        Check.due("the water was kept", Scene.allSmoke(x) - before, 800);
        x.step(1);
        Check.due("the water is gone", Scene.allSmoke(x) - before, 1000);
    }

    // ---- promise 11

    private static void commandAnswersWhatItWas() {
        TubeWatch x = new TubeWatch();
        Check.due("command(0, 1)", x.command(0, 1), 0);
        Check.due("command(0, -1)", x.command(0, -1), 1);
        Check.due("command(0, 0)", x.command(0, 0), -1);
        Check.due("command(1, -1)", x.command(1, -1), 0);
        Check.due("command(2, 1)", x.command(2, 1), 0);
        x.step(1);
        Check.due("fan(0)", x.fan(0), 0);
        Check.due("fan(1)", x.fan(1), -1);
        Check.due("fan(2)", x.fan(2), 1);
        x.command(1, 1);
        x.command(2, -1);
        x.step(1);
        Check.due("fan(1) turns by 1", x.fan(1), 0);
        Check.due("fan(2) turns by 1", x.fan(2), 0);
        x.step(1);
        Check.due("fan(1) turned", x.fan(1), 1);
        Check.due("fan(2) turned", x.fan(2), -1);
    }

    // ---- promise 12

    private static void stepsAreCounted() {
        TubeWatch x = new TubeWatch();
        Check.due("step(1)", x.step(1), 1);
        Check.due("step(100)", x.step(100), 101);
        Check.due("step(7)", x.step(7), 108);
        TubeWatch one = Scene.calmFire(3, 50);
        TubeWatch many = Scene.calmFire(3, 50);
        for (int i = 0; i < 40; i++) {
            one.step(1);
        }
        many.step(40);
        for (int i = 0; i < 12; i++) {
            Check.due("forty steps at once, segment " + i, many.segment(i, 0), one.segment(i, 0));
        }
    }
}
