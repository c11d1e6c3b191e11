/** Promises 1 to 5: a new object, and what there is. */
public final class ThereTest {
    public static void main(String[] args) {
        newObjectIsEmpty();
        newObjectStands();
        buildPlacesDoors();
        buildMakesDoorsNew();
        buildPlacesDamper();
        peopleSit();
        windAnswersWhatItWas();
        fireBegins();
        Check.end();
    }

    // ---- promise 1

    private static void newObjectIsEmpty() {
        TubeWatch x = new TubeWatch();
        for (int i = 0; i < 12; i++) {
            for (int what = 0; what < 4; what++) {
                Check.due("new segment(" + i + ", " + what + ")", x.segment(i, what), 0);
            }
            Check.due("new segment(" + i + ", 4)", x.segment(i, 4), TubeWatch.NONE);
        }
        for (int i = 0; i < 3; i++) {
            Check.due("new fan(" + i + ")", x.fan(i), 0);
            Check.due("new command(" + i + ", 0)", x.command(i, 0), 0);
        }
        for (int state = TubeWatch.SITS; state <= TubeWatch.HURT; state++) {
            Check.due("new count(" + state + ")", x.count(state), 0);
        }
        Check.due("new flow()", x.flow(), 0);
        Check.due("new alarm()", x.alarm(), TubeWatch.NONE);
        Check.due("new gone()", x.gone(), 0);
        Check.due("new balances()", x.balances(), true);
        Check.due("new wind(0)", x.wind(0), 0);
        Check.noIndex("new done(0)", () -> x.done(0));
        Check.noIndex("new person(0, 0)", () -> x.person(0, 0));
    }

    private static void newObjectStands() {
        TubeWatch x = new TubeWatch();
        Check.due("both feeds are up", x.feed(0, false), true);
        Check.due("one feed is down", x.feed(1, false), false);
        Check.due("no step was done", x.step(1), 1);
        Check.due("traffic is not stopped", x.flow(), 125);
        TubeWatch first = new TubeWatch();
        TubeWatch second = new TubeWatch();
        first.people(3, 2);
        first.fire(3, 9);
        Check.due("objects do not share persons", second.people(4, 1), 1);
        second.fire(4, 9);
    }

    // ---- promise 2

    private static void buildPlacesDoors() {
        for (int set : new int[] {0, 1, 2048, 72, 1365, 4095}) {
            TubeWatch x = new TubeWatch();
            x.build(set, 0);
            for (int i = 0; i < 12; i++) {
                int due = (set & 1 << i) == 0 ? TubeWatch.NONE : 0;
                Check.due("build(" + set + ") segment(" + i + ", 4)", x.segment(i, 4), due);
            }
        }
    }

    private static void buildMakesDoorsNew() {
        TubeWatch x = Scene.calmFire(6, 200);
        x.build(3, 0);
        x.failDoor(1, true);
        x.build(6, 11);
        Check.due("the door of the first build is not there", x.segment(0, 4), TubeWatch.NONE);
        Check.due("a new door is shut", x.segment(1, 4), 0);
        x.act(TubeWatch.DOORS, 0, false);
        x.step(8);
        Check.due("a new door does not fail", x.segment(1, 4), 1);
        Check.due("the other new door opens", x.segment(2, 4), 1);
        Check.due("what is not there does not open", x.segment(0, 4), TubeWatch.NONE);
    }

    private static void buildPlacesDamper() {
        int[] damperAt = {5, 6, 11};
        int[] goneDue = {4, 15, 0};
        for (int i = 0; i < damperAt.length; i++) {
            TubeWatch x = Scene.calmFire(6, 200);
            x.build(0, damperAt[i]);
            x.act(TubeWatch.DAMPER, 0, false);
            x.step(8);
            Check.due("closed damper at " + damperAt[i], x.gone(), 0);
            x.step(1);
            Check.due("open damper at " + damperAt[i], x.gone(), goneDue[i]);
        }
    }

    // ---- promise 3

    private static void peopleSit() {
        TubeWatch x = new TubeWatch();
        Check.due("people(0, 1)", x.people(0, 1), 1);
        Check.due("people(11, 2)", x.people(11, 2), 3);
        Check.due("people(0, 27)", x.people(0, 27), 30);
        Check.due("person(0, 0)", x.person(0, 0), TubeWatch.SITS);
        Check.due("person(0, 1)", x.person(0, 1), 0);
        Check.due("person(1, 1)", x.person(1, 1), 11);
        Check.due("person(2, 1)", x.person(2, 1), 11);
        Check.due("person(3, 1)", x.person(3, 1), 0);
        Check.due("person(29, 2)", x.person(29, 2), TubeWatch.NONE);
        Check.due("segment(0, 3)", x.segment(0, 3), 28);
        Check.due("segment(11, 3)", x.segment(11, 3), 2);
        Check.due("whole crowd at once", new TubeWatch().people(5, 30), 30);
    }

    // ---- promise 4

    private static void windAnswersWhatItWas() {
        TubeWatch x = new TubeWatch();
        Check.due("wind(40)", x.wind(40), 0);
        Check.due("wind(-40)", x.wind(-40), 40);
        Check.due("wind(-40) again", x.wind(-40), -40);
        x.step(1);
        Check.due("flow of a wind to the left", x.flow(), -875);
        Check.due("wind(40) behind a step", x.wind(40), -40);
        x.step(1);
        Check.due("flow of a wind to the right", x.flow(), 468);
    }

    // ---- promise 5

    private static void fireBegins() {
        for (int segment = 0; segment < 12; segment++) {
            TubeWatch x = Scene.calm();
            x.step(3);
            x.fire(segment, 1 + segment);
            Check.due("a fire told makes no smoke yet", x.segment(segment, 0), 0);
            x.step(2);
            Check.due("smoke by a fire in " + segment, x.segment(segment, 0), 2);
        }
        Check.due("a fire of 1", smokeOf(1), 4);
        Check.due("a fire of 2", smokeOf(2), 6);
        Check.due("a fire of 200", smokeOf(200), 7);
    }

    private static int smokeOf(int size) {
        TubeWatch x = Scene.calmFire(4, size);
        x.step(4);
        return x.segment(4, 0);
    }
}
