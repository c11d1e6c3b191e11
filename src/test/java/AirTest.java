/** What promise 12 does to fans, flow, fire, smoke, heat and detectors, as promises 13 to 16 tell it. */
public final class AirTest {
    public static void main(String[] args) {
        flowGoesAFourthOfTheWay();
        flowCountsFans();
        fireGrows();
        heatGoes();
        smokeDriftsToTheRight();
        smokeDriftsToTheLeft();
        smokeDriftsAllAtOnce();
        smokeBacksAgainstAWeakFlow();
        smokeBacksOutOfTheMouths();
        smokeDoesNotBackAgainstThirty();
        damperDrawsOffAThird();
        detectorsTellAtTheirBounds();
        thirdDetectorWantsAPerson();
        alarmByTheLowestSegment();
        Check.end();
    }

    private static void flowGoesAFourthOfTheWay() {
        TubeWatch x = new TubeWatch();
        x.step(1);
        Check.due("flow of traffic", x.flow(), 125);
        x.step(1);
        Check.due("flow of traffic then", x.flow(), 218);
        x.wind(-40);
        x.step(1);
        Check.due("flow is cut towards 0", x.flow(), -710);
        x.step(60);
        Check.due("flow nears its aim", x.flow(), -3499);
    }

    private static void flowCountsFans() {
        TubeWatch x = new TubeWatch();
        x.command(1, 1);
        x.step(1);
        Check.due("flow of a fan and traffic", x.flow(), 500);
        x.command(1, -1);
        x.command(0, -1);
        x.step(2);
        Check.due("flow of fans to the left", x.flow(), -531);
        TubeWatch most = new TubeWatch();
        for (int i = 0; i < 3; i++) {
            most.command(i, 1);
        }
        most.wind(40);
        most.step(1);
        Check.due("flow to 90", most.flow(), 2250);
        most.step(99);
        Check.due("flow at 90", most.flow(), 8999);
    }

    private static void fireGrows() {
        int[] powers = {1, 1, 2, 3, 5, 7, 10, 13, 17, 21, 26, 31};
        int due = 0;
        TubeWatch x = Scene.calmFire(4, 200);
        for (int i = 0; i < powers.length; i++) {
            x.step(1);
            due += powers[i];
            Check.due("all smoke behind step " + i, Scene.allSmoke(x), due);
        }
        x.step(16);
        int before = Scene.allSmoke(x);
        x.step(1);
        Check.due("power at the age of 28", Scene.allSmoke(x) - before, 197);
        x.step(1);
        Check.due("power at the age of 29", Scene.allSmoke(x) - before, 397);
        x.step(100);
        Check.due("power at its most", Scene.allSmoke(x) - before, 20397);
    }

    private static void heatGoes() {
        int[] due = {0, 0, 1, 3, 6, 9, 14, 20, 27};
        TubeWatch x = Scene.calmFire(4, 200);
        for (int i = 0; i < due.length; i++) {
            x.step(1);
            Check.due("heat behind step " + i, x.segment(4, 1), due[i]);
            Check.due("heat stays in its segment", x.segment(3, 1) + x.segment(5, 1), 0);
        }
    }

    private static TubeWatch blown(int side, int wind) {
        TubeWatch x = new TubeWatch();
        for (int i = 0; i < 3; i++) {
            x.command(i, side);
        }
        x.wind(wind);
        return x;
    }

    private static void smokeDriftsToTheRight() {
        TubeWatch last = blown(1, 40);
        last.fire(11, 200);
        last.step(4);
        Check.due("smoke of the last segment", last.segment(11, 0), 2);
        Check.due("smoke out by the right mouth", last.gone(), 5);
        Check.due("no smoke to the left", last.segment(10, 0), 0);
        TubeWatch inner = blown(1, 40);
        inner.fire(7, 200);
        inner.step(4);
        Check.due("smoke of segment 7", inner.segment(7, 0), 2);
        Check.due("smoke of segment 8", inner.segment(8, 0), 4);
        Check.due("smoke of segment 9", inner.segment(9, 0), 1);
        Check.due("no smoke out yet", inner.gone(), 0);
    }

    private static void smokeDriftsToTheLeft() {
        TubeWatch x = blown(-1, -40);
        x.fire(0, 200);
        x.step(3);
        Check.due("smoke of the first segment", x.segment(0, 0), 3);
        Check.due("smoke out by the left mouth", x.gone(), 1);
        x.step(1);
        Check.due("smoke of the first segment then", x.segment(0, 0), 3);
        Check.due("smoke out by the left mouth then", x.gone(), 4);
        Check.due("no smoke to the right", x.segment(1, 0), 0);
    }

    /** A steady flow of 89 from the left moves 89 of 100, of what was there ahead of it. */
    private static void smokeDriftsAllAtOnce() {
        TubeWatch x = blown(1, 40);
        x.step(100);
        x.fire(2, 200);
        x.step(2);
        Check.due("smoke of segment 2", x.segment(2, 0), 1);
        Check.due("smoke of segment 3", x.segment(3, 0), 1);
        x.step(1);
        Check.due("smoke of segment 2 then", x.segment(2, 0), 1);
        Check.due("smoke of segment 3 then", x.segment(3, 0), 3);
        Check.due("smoke of segment 4 then", x.segment(4, 0), 0);
        x.step(1);
        Check.due("smoke of segment 2 at last", x.segment(2, 0), 1);
        Check.due("smoke of segment 3 at last", x.segment(3, 0), 4);
        Check.due("smoke of segment 4 at last", x.segment(4, 0), 2);
    }

    private static void smokeBacksAgainstAWeakFlow() {
        TubeWatch still = Scene.calmFire(6, 200);
        still.step(5);
        Check.due("backs to the left in a flow of 0.0", still.segment(5, 0), 1);
        Check.due("not to the right in a flow of 0.0", still.segment(7, 0), 0);
        Check.due("what is left", still.segment(6, 0), 11);
        TubeWatch toLeft = new TubeWatch();
        toLeft.wind(-10);
        toLeft.fire(6, 200);
        toLeft.step(5);
        Check.due("a flow to the left", toLeft.flow(), -381);
        Check.due("backs to the right", toLeft.segment(7, 0), 1);
        Check.due("not to the left", toLeft.segment(5, 0), 0);
        TubeWatch toRight = new TubeWatch();
        toRight.fire(6, 200);
        toRight.step(5);
        Check.due("a flow to the right", toRight.flow(), 381);
        Check.due("backs to the left", toRight.segment(5, 0), 1);
        Check.due("not to the right", toRight.segment(7, 0), 0);
    }

    private static void smokeBacksOutOfTheMouths() {
        TubeWatch left = Scene.calmFire(0, 200);
        left.step(5);
        Check.due("backs out by the left mouth", left.gone(), 1);
        Check.due("not to segment 1", left.segment(1, 0), 0);
        TubeWatch right = new TubeWatch();
        right.wind(-10);
        right.fire(11, 200);
        right.step(5);
        Check.due("backs out by the right mouth", right.gone(), 1);
        Check.due("not to segment 10", right.segment(10, 0), 0);
        Check.due("still balances", left.balances() && right.balances(), true);
    }

    /** Two steps of aims 80 and 60 make a flow of 30.0 exactly; an aim of 30 keeps it. */
    private static TubeWatch atThirty(int side, int last) {
        TubeWatch x = blown(side, side > 0 ? 30 : -40);
        x.step(1);
        x.wind(side > 0 ? 10 : -20);
        x.step(1);
        x.wind(last);
        x.fire(5, 200);
        x.step(6);
        return x;
    }

    private static void smokeDoesNotBackAgainstThirty() {
        TubeWatch right = atThirty(1, -20);
        Check.due("a flow of 30.0", right.flow(), 3000);
        Check.due("no smoke backs at 30.0", right.segment(4, 0), 0);
        Check.due("smoke of the fire", right.segment(5, 0), 10);
        right.step(6);
        Check.due("smoke of the fire then", right.segment(5, 0), 52);
        TubeWatch left = atThirty(-1, 10);
        Check.due("a flow of -30.0", left.flow(), -3000);
        Check.due("no smoke backs at -30.0", left.segment(6, 0), 0);
        Check.due("smoke of the fire to the left", left.segment(5, 0), 10);
        TubeWatch weaker = atThirty(1, -21);
        Check.due("a flow under 30.0", weaker.flow(), 2917);
        Check.due("smoke backs under 30.0", weaker.segment(4, 0), 1);
    }

    private static void damperDrawsOffAThird() {
        TubeWatch x = Scene.calmFire(6, 200);
        x.act(TubeWatch.DAMPER, 0, false);
        x.step(8);
        Check.due("smoke in the step of the act", x.segment(6, 0), 35);
        x.step(1);
        Check.due("smoke behind the damper", x.segment(6, 0), 32);
        Check.due("smoke drawn off", x.gone(), 15);
        Check.due("smoke that backed ahead of it", x.segment(5, 0), 12);
        x.feed(0, false);
        x.feed(1, false);
        x.step(1);
        Check.due("the damper stays open without power", x.gone(), 31);
        Check.due("what is left then", x.segment(6, 0), 32);
    }

    private static void detectorsTellAtTheirBounds() {
        TubeWatch hot = Scene.calmFire(6, 200);
        hot.step(7);
        Check.due("heat 14 does not tell, smoke 25 does", hot.segment(6, 2), 1);
        Check.due("one gives no alarm", hot.alarm(), TubeWatch.NONE);
        hot.step(1);
        Check.due("heat 20 tells", hot.segment(6, 2), 2);
        Check.due("two give the alarm", hot.alarm(), 6);
        TubeWatch warm = Scene.calmFire(6, 8);
        warm.step(11);
        Check.due("heat of 19", warm.segment(6, 1), 19);
        Check.due("heat 19 does not tell, smoke does", warm.segment(6, 2), 1);
        warm.step(1);
        Check.due("heat of 20", warm.segment(6, 1), 20);
        Check.due("heat 20 gives the alarm", warm.alarm(), 6);
        TubeWatch slow = Scene.calmFire(6, 2);
        slow.step(11);
        Check.due("smoke 14 does not tell", slow.segment(6, 2), 0);
        slow.step(1);
        Check.due("smoke 15 tells", slow.segment(6, 2), 1);
    }

    private static void thirdDetectorWantsAPerson() {
        TubeWatch x = Scene.calmFire(6, 2);
        x.step(6);
        x.people(6, 1);
        Check.due("smoke 9 with a person", x.segment(6, 2), 0);
        x.step(1);
        Check.due("smoke 10 with a person", x.segment(6, 2), 1);
        Check.due("smoke 10 with a person is no alarm", x.alarm(), TubeWatch.NONE);
        x.step(4);
        Check.due("smoke 14, the person went on", x.segment(6, 2), 0);
        x.people(6, 2);
        Check.due("smoke 14 with persons who came", x.segment(6, 2), 1);
        x.step(1);
        Check.due("smoke 15 with persons", x.alarm(), 6);
        TubeWatch hurt = Scene.calmFire(6, 13);
        hurt.failDetector(6, 0, true);
        hurt.step(21);
        hurt.people(6, 1);
        hurt.failDetector(6, 1, true);
        hurt.step(1);
        Check.due("hurt", hurt.person(0, 0), TubeWatch.HURT);
        Check.due("one who is hurt counts for the third", hurt.segment(6, 2), 1);
    }

    private static void alarmByTheLowestSegment() {
        TubeWatch x = Scene.calmFire(6, 200);
        Scene.failDetectors(x, 6, true);
        Scene.failDetectors(x, 5, true);
        x.step(20);
        x.people(6, 1);
        x.people(5, 1);
        Check.due("no alarm yet", x.alarm(), TubeWatch.NONE);
        Scene.failDetectors(x, 6, false);
        Scene.failDetectors(x, 5, false);
        x.step(1);
        Check.due("the lowest segment", x.alarm(), 5);
        TubeWatch once = Scene.calmFire(6, 200);
        once.step(38);
        once.people(5, 1);
        Check.due("segment 5 tells later", once.segment(5, 2), 2);
        once.step(1);
        Check.due("the alarm is given once", once.alarm(), 6);
    }
}
