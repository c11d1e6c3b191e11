/** Promises 14 to 17, 20 and 21: what is asked of the whole tube. */
public final class AskTest {
    public static void main(String[] args) {
        flowIsCut();
        alarmIsGivenInItsStep();
        doneTellsSteps();
        goneCountsAllSmoke();
        balancesEver();
        aWholeLifeBalances();
        Check.end();
    }

    private static void flowIsCut() {
        TubeWatch x = new TubeWatch();
        x.wind(-8);
        int[] due = {-75, -131, -173, -205, -228};
        for (int i = 0; i < due.length; i++) {
            x.step(1);
            Check.due("flow behind step " + i, x.flow(), due[i]);
        }
        x.wind(-5);
        x.step(100);
        Check.due("a flow of nearly 0 to the left", x.flow(), 0);
    }

    private static void alarmIsGivenInItsStep() {
        for (int segment = 0; segment < 12; segment++) {
            TubeWatch x = Scene.calmFire(segment, 200);
            x.step(7);
            Check.due("no alarm yet in " + segment, x.alarm(), TubeWatch.NONE);
            x.step(1);
            Check.due("alarm in " + segment, x.alarm(), segment);
        }
    }

    private static void doneTellsSteps() {
        TubeWatch x = Scene.calm();
        x.step(50);
        x.fire(0, 200);
        x.act(TubeWatch.STOP, 0, false);
        x.act(TubeWatch.STOP, 3, false);
        x.step(8);
        Check.due("done(0)", x.done(0), 57);
        Check.due("done(1)", x.done(1), TubeWatch.NONE);
        x.step(2);
        Check.due("done(1) ahead of its step", x.done(1), TubeWatch.NONE);
        x.step(1);
        Check.due("done(1) in its step", x.done(1), 60);
    }

    private static void goneCountsAllSmoke() {
        TubeWatch x = Scene.calmFire(0, 200);
        x.build(0, 0);
        x.act(TubeWatch.DAMPER, 0, false);
        int[] byMouth = {0, 0, 0, 0, 1, 2, 4, 7};
        for (int i = 0; i < byMouth.length; i++) {
            x.step(1);
            Check.due("gone by the mouth behind step " + i, x.gone(), byMouth[i]);
        }
        x.step(1);
        Check.due("gone by the mouth and the damper", x.gone(), 7 + 5 + 15);
    }

    private static void balancesEver() {
        TubeWatch x = new TubeWatch();
        x.people(2, 9);
        x.people(6, 9);
        x.build(36, 5);
        x.fire(5, 170);
        x.act(TubeWatch.TELL, 4, true);
        x.act(TubeWatch.DOORS, 2, false);
        x.act(TubeWatch.RIGHT, 0, false);
        x.act(TubeWatch.DAMPER, 3, true);
        x.act(TubeWatch.FOAM, 5, false);
        for (int i = 0; i < 120; i++) {
            x.wind(i * 7 % 81 - 40);
            x.step(1 + i % 3);
            Check.due("balances behind " + i, x.balances(), true);
        }
        Check.due("smoke went out", x.gone() > 0, true);
    }

    /** Nearly all calls of an object are a hundred steps each, with the most smoke; then a storm. */
    private static void aWholeLifeBalances() {
        TubeWatch x = Scene.calmFire(6, 200);
        int made = 0;
        for (int age = 0; age < 46600; age++) {
            made += Math.min(200, age < 100 ? 1 + age * age / 4 : 200);
        }
        for (int i = 0; i < 466; i++) {
            x.step(100);
        }
        Check.due("all smoke of 46600 steps", Scene.allSmoke(x), made);
        Check.due("no smoke is gone", x.gone(), 0);
        x.wind(40);
        for (int i = 0; i < 3; i++) {
            x.command(i, 1);
        }
        Check.due("steps of a whole life", x.step(100), 46700);
        Check.due("all smoke of 46700 steps", Scene.allSmoke(x), made + 20000);
        Check.due("a storm clears the tube", x.gone() > made, true);
        Check.due("balances at last", x.balances(), true);
    }
}
