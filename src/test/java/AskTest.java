/** Promises 14 to 17, 20 and 21: what is asked of the whole tube. */
public final class AskTest {
    public static void main(String[] args) {
        flowIsCut();
        alarmIsGivenInItsStep();
        doneTellsSteps();
        doneRefuses();
        goneCountsAllSmoke();
        balancesEver();
        aWholeLifeBalances();
        refusedCallsChangeNothing();
        farNumbersAreRefused();
        Check.end();
    }

    private static void flowIsCut() {
        TubeWatch x = new TubeWatch();
        x.wind(-8);
        int[] due = {-75, -131, -173, -205, -228};
        for (int i = 0; i < due.length; i++) {
            x.step(1);
            Check.due("flow behind step " + i, x.flow(), due[i]);
        }
        x.wind(-5);
        x.step(100);
        Check.due("a flow of nearly 0 to the left", x.flow(), 0);
    }

    private static void alarmIsGivenInItsStep() {
        for (int segment = 0; segment < 12; segment++) {
            TubeWatch x = Scene.calmFire(segment, 200);
            x.step(7);
            Check.due("no alarm yet in " + segment, x.alarm(), TubeWatch.NONE);
            x.step(1);
            Check.due("alarm in " + segment, x.alarm(), segment);
        }
    }

    private static void doneTellsSteps() {
        TubeWatch x = Scene.calm();
        x.step(50);
        x.fire(0, 200);
        x.act(TubeWatch.STOP, 0, false);
        x.act(TubeWatch.STOP, 3, false);
        x.step(8);
        Check.due("done(0)", x.done(0), 57);
        Check.due("done(1)", x.done(1), TubeWatch.NONE);
        x.step(2);
        Check.due("done(1) ahead of its step", x.done(1), TubeWatch.NONE);
        x.step(1);
        Check.due("done(1) in its step", x.done(1), 60);
    }

    private static void doneRefuses() {
        TubeWatch x = new TubeWatch();
        x.act(TubeWatch.FOAM, 2, false);
        Check.noIndex("done(-1)", () -> x.done(-1));
        Check.noIndex("done(1)", () -> x.done(1));
        Check.noIndex("done(10)", () -> x.done(10));
        Check.due("done(0)", x.done(0), TubeWatch.NONE);
    }

    private static void goneCountsAllSmoke() {
        TubeWatch x = Scene.calmFire(0, 200);
        x.build(0, 0);
        x.act(TubeWatch.DAMPER, 0, false);
        int[] byMouth = {0, 0, 0, 0, 1, 2, 4, 7};
        for (int i = 0; i < byMouth.length; i++) {
            x.step(1);
            Check.due("gone by the mouth behind step " + i, x.gone(), byMouth[i]);
        }
        x.step(1);
        Check.due("gone by the mouth and the damper", x.gone(), 7 + 5 + 15);
    }

    private static void balancesEver() {
        TubeWatch x = new TubeWatch();
        x.people(2, 9);
        x.people(6, 9);
        x.build(36, 5);
        x.fire(5, 170);
        x.act(TubeWatch.TELL, 4, true);
        x.act(TubeWatch.DOORS, 2, false);
        x.act(TubeWatch.RIGHT, 0, false);
        x.act(TubeWatch.DAMPER, 3, true);
        x.act(TubeWatch.FOAM, 5, false);
        for (int i = 0; i < 120; i++) {
            x.wind(i * 7 % 81 - 40);
            x.step(1 + i % 3);
            Check.due("balances behind " + i, x.balances(), true);
        }
        Check.due("smoke went out", x.gone() > 0, true);
    }

    /** As many steps as the calls of one object allow, and the most smoke, then a storm. */
    private static void aWholeLifeBalances() {
        TubeWatch x = Scene.calmFire(6, 200);
        int made = 0;
        for (int age = 0; age < 49000; age++) {
            made += Math.min(200, age < 100 ? 1 + age * age / 4 : 200);
        }
        for (int i = 0; i < 490; i++) {
            x.step(100);
        }
        Check.due("all smoke of 49000 steps", Scene.allSmoke(x), made);
        Check.due("no smoke is gone", x.gone(), 0);
        x.wind(40);
        for (int i = 0; i < 3; i++) {
            x.command(i, 1);
        }
        x.step(100);
        Check.due("a storm clears the tube", Scene.allSmoke(x) - x.gone() < 3000, true);
        Check.due("all smoke of 49100 steps", Scene.allSmoke(x), made + 20000);
        Check.due("balances at last", x.balances(), true);
    }

    private static void farNumbersAreRefused() {
        TubeWatch x = mixed();
        for (int far : new int[] {Integer.MIN_VALUE, Integer.MIN_VALUE + 1, -2, 4096, Integer.MAX_VALUE}) {
            Check.noIndex("build " + far, () -> x.build(0, far));
            Check.noArgument("build " + far, () -> x.build(far, 0));
            Check.noIndex("people " + far, () -> x.people(far, 1));
            Check.noArgument("people " + far, () -> x.people(0, far));
            Check.noArgument("wind " + far, () -> x.wind(far == -2 ? -41 : far));
            Check.noIndex("fire " + far, () -> x.fire(far, 1));
            Check.noArgument("fire " + far, () -> x.fire(0, far));
            Check.noIndex("feed " + far, () -> x.feed(far, true));
            Check.noIndex("failFan " + far, () -> x.failFan(far, true));
            Check.noIndex("failDoor " + far, () -> x.failDoor(far, true));
            Check.noIndex("failDetector " + far, () -> x.failDetector(far, 0, true));
            Check.noIndex("failDetector " + far, () -> x.failDetector(0, far, true));
            Check.noArgument("act " + far, () -> x.act(far, 0, true));
            Check.noArgument("act " + far, () -> x.act(0, far, true));
            Check.noIndex("command " + far, () -> x.command(far, 0));
            Check.noArgument("command " + far, () -> x.command(0, far));
            Check.noArgument("step " + far, () -> x.step(far));
            Check.noIndex("segment " + far, () -> x.segment(far, 0));
            Check.noArgument("segment " + far, () -> x.segment(0, far));
            Check.noIndex("fan " + far, () -> x.fan(far));
            Check.noIndex("done " + far, () -> x.done(far));
            Check.noIndex("person " + far, () -> x.person(far, 0));
            Check.noArgument("person " + far, () -> x.person(0, far));
            Check.noArgument("count " + far, () -> x.count(far));
        }
    }

    private static void refusedCallsChangeNothing() {
        TubeWatch left = mixed();
        TubeWatch right = mixed();
        for (int i = 0; i < 20; i++) {
            left.step(1);
            right.step(1);
            refuseAll(right);
            for (int segment = 0; segment < 12; segment++) {
                for (int what = 0; what < 5; what++) {
                    Check.due("behind refused calls", right.segment(segment, what), left.segment(segment, what));
                }
            }
            Check.due("flow behind refused calls", right.flow(), left.flow());
            Check.due("wind behind refused calls", right.wind(i), left.wind(i));
        }
        Check.due("persons behind refused calls", right.people(0, 1), left.people(0, 1));
    }

    private static TubeWatch mixed() {
        TubeWatch x = new TubeWatch();
        x.build(5, 4);
        x.people(4, 3);
        x.fire(4, 90);
        x.act(TubeWatch.DOORS, 1, false);
        return x;
    }

    private static void refuseAll(TubeWatch x) {
        Check.noState("build", () -> x.build(0, 0));
        Check.noArgument("people", () -> x.people(0, 31));
        Check.noState("people", () -> x.people(0, 30));
        Check.noArgument("wind", () -> x.wind(99));
        Check.noState("fire", () -> x.fire(0, 200));
        Check.noIndex("feed", () -> x.feed(2, false));
        Check.noIndex("failFan", () -> x.failFan(3, true));
        Check.noIndex("failDoor", () -> x.failDoor(1, true));
        Check.noIndex("failDetector", () -> x.failDetector(4, 3, true));
        Check.noArgument("act", () -> x.act(TubeWatch.FOAM, 21, false));
        Check.noArgument("command", () -> x.command(1, 5));
        Check.noArgument("step", () -> x.step(101));
    }
}
