/** The bounds that the document names for persons: who is hurt, gets ready, walks, which way, and who is out. */
public final class EdgePersonTest {
    private static final int NONE = TubeWatch.NONE;

    public static void main(String[] args) {
        sitsAtNine();
        getsReadyAtTen();
        walksFromTheThirdStepOn();
        isNotMadeReadyTwice();
        walksThoughTheSmokeIsGone();
        isNotHurtAtNinetyNine();
        isHurtAtAHundredHoweverOneIs();
        isHurtAheadOfAnOpenDoor();
        oneWhoIsOutIsNotHurt();
        thirtyAreNotForty();
        goesInEvenStepsAlone();
        ownDoorIsNoughtAway();
        mouthsAreOneMoreAway();
        theNearestOfAllWays();
        shutDoorsAreNoWay();
        thirtyAreCountedByOneState();
        Check.end();
    }

    private static void is(TubeWatch x, int person, int state, int segment, int end) {
        Check.due("state of " + person, x.person(person, 0), state);
        Check.due("segment of " + person, x.person(person, 1), segment);
        Check.due("end of " + person, x.person(person, 2), end);
    }

    // ---- "with smoke of at least 10", "from the third step behind that on, that one with it"

    /** A fire of 1 in a calm keeps 9 of smoke. */
    private static void sitsAtNine() {
        TubeWatch x = Scene.calmFire(6, 1);
        x.people(6, 1);
        x.step(100);
        Check.due("smoke of 9", x.segment(6, 0), 9);
        is(x, 0, TubeWatch.SITS, 6, NONE);
    }

    /** A fire of 2 has 9 of smoke behind step 5, and 10 behind step 6. */
    private static void getsReadyAtTen() {
        TubeWatch x = Scene.calmFire(6, 2);
        x.people(6, 1);
        x.step(6);
        Check.due("smoke of 9", x.segment(6, 0), 9);
        is(x, 0, TubeWatch.SITS, 6, NONE);
        x.step(1);
        Check.due("smoke of 10", x.segment(6, 0), 10);
        is(x, 0, TubeWatch.READY, 6, NONE);
    }

    private static void walksFromTheThirdStepOn() {
        TubeWatch bySmoke = Scene.calmFire(6, 2);
        bySmoke.people(6, 1);
        bySmoke.step(9);
        is(bySmoke, 0, TubeWatch.READY, 6, NONE);
        bySmoke.step(1);
        is(bySmoke, 0, TubeWatch.WALKS, 7, NONE);
        TubeWatch told = told(0);
        told.people(3, 1);
        told.step(3);
        is(told, 0, TubeWatch.READY, 3, NONE);
        told.step(1);
        is(told, 0, TubeWatch.WALKS, 2, NONE);
    }

    /** Ready by smoke in step 4, told in step 5: walks in step 7. */
    private static void isNotMadeReadyTwice() {
        TubeWatch x = Scene.calmFire(6, 5);
        x.people(6, 1);
        x.act(TubeWatch.TELL, 0, false);
        x.step(5);
        is(x, 0, TubeWatch.READY, 6, NONE);
        x.step(2);
        Check.due("told", x.done(0), 5);
        is(x, 0, TubeWatch.READY, 6, NONE);
        x.step(1);
        is(x, 0, TubeWatch.WALKS, 7, NONE);
    }

    /** The damper in 5 draws off what made one ready: 15, then 10, 7 and 5 of smoke, with foam on the fire. */
    private static void walksThoughTheSmokeIsGone() {
        TubeWatch x = Scene.calmFire(6, 1);
        x.build(0, 5);
        x.act(TubeWatch.FOAM, 0, false);
        x.act(TubeWatch.DAMPER, 0, false);
        x.step(23);
        x.people(5, 1);
        x.step(1);
        is(x, 0, TubeWatch.READY, 5, NONE);
        x.step(2);
        Check.due("smoke of 7", x.segment(5, 0), 7);
        is(x, 0, TubeWatch.READY, 5, NONE);
        x.step(1);
        Check.due("smoke of 5", x.segment(5, 0), 5);
        is(x, 0, TubeWatch.WALKS, 4, NONE);
    }

    // ---- "is hurt for good, if the smoke of the segment is at least 100"

    /** A fire of 11 in a calm keeps 99 of smoke; one who comes gets ready, and goes in an even step. */
    private static void isNotHurtAtNinetyNine() {
        TubeWatch x = Scene.calmFire(6, 11);
        x.step(60);
        x.people(6, 1);
        x.step(3);
        Check.due("smoke of 99", x.segment(6, 0), 99);
        is(x, 0, TubeWatch.READY, 6, NONE);
        x.step(1);
        is(x, 0, TubeWatch.WALKS, 6, NONE);
        x.step(1);
        is(x, 0, TubeWatch.WALKS, 7, NONE);
    }

    /** The fire of 12 is told in step 1: 99 of smoke behind step 25, 100 behind step 26. */
    private static TubeWatch twelve() {
        TubeWatch x = Scene.calm();
        x.step(1);
        x.fire(6, 12);
        return x;
    }

    private static void isHurtAtAHundredHoweverOneIs() {
        TubeWatch x = twelve();
        x.step(21);
        x.people(6, 1);
        x.step(2);
        x.people(6, 1);
        x.step(1);
        Check.due("smoke of 98", x.segment(6, 0), 98);
        x.people(6, 1);
        x.step(1);
        Check.due("smoke of 99", x.segment(6, 0), 99);
        is(x, 0, TubeWatch.WALKS, 6, NONE);
        is(x, 1, TubeWatch.READY, 6, NONE);
        is(x, 2, TubeWatch.READY, 6, NONE);
        x.people(6, 1);
        is(x, 3, TubeWatch.SITS, 6, NONE);
        x.step(1);
        Check.due("smoke of 100", x.segment(6, 0), 100);
        for (int person = 0; person < 4; person++) {
            is(x, person, TubeWatch.HURT, 6, 26);
        }
        x.step(50);
        for (int person = 0; person < 4; person++) {
            is(x, person, TubeWatch.HURT, 6, 26);
        }
    }

    private static void isHurtAheadOfAnOpenDoor() {
        TubeWatch x = Scene.calm();
        x.build(1 << 6, 0);
        x.act(TubeWatch.DOORS, 0, false);
        x.step(1);
        x.fire(6, 12);
        x.step(22);
        x.people(6, 1);
        x.step(1);
        is(x, 0, TubeWatch.READY, 6, NONE);
        x.step(2);
        Check.due("the door is open", x.segment(6, 4), 1);
        is(x, 0, TubeWatch.READY, 6, NONE);
        x.step(1);
        is(x, 0, TubeWatch.HURT, 6, 26);
    }

    /** One in 0 gets ready in step 4 and is out in step 7; the smoke of 0 is 100 behind step 11. */
    private static void oneWhoIsOutIsNotHurt() {
        TubeWatch x = Scene.calmFire(0, 200);
        x.people(0, 1);
        x.step(7);
        is(x, 0, TubeWatch.READY, 0, NONE);
        x.step(1);
        is(x, 0, TubeWatch.OUT, NONE, 7);
        x.step(30);
        Check.due("much smoke", x.segment(0, 0) >= 100, true);
        is(x, 0, TubeWatch.OUT, NONE, 7);
        Check.due("nobody is hurt", x.count(TubeWatch.HURT), 0);
    }

    // ---- "With smoke of at least 40 ... in steps of even numbers alone, and stays in others"

    /** Told a step later, a fire of 5 has 38 of smoke in step 17, 39 in 18, 40 in 19, 41 in 20. */
    private static void thirtyAreNotForty() {
        int[] comes = {14, 15, 16, 17};
        int[] goes = {17, 18, 20, 20};
        for (int i = 0; i < comes.length; i++) {
            TubeWatch x = Scene.calm();
            x.step(1);
            x.fire(6, 5);
            x.step(comes[i] - 1);
            x.people(6, 1);
            x.step(goes[i] - comes[i]);
            Check.due("not gone yet ahead of step " + goes[i], x.person(0, 1), 6);
            x.step(1);
            Check.due("gone in step " + goes[i], x.person(0, 1), 7);
        }
    }

    /** From 5, with 45 of smoke, through 4, with some 70, to 3, where there is none. */
    private static void goesInEvenStepsAlone() {
        TubeWatch x = Scene.calmFire(5, 5);
        x.step(20);
        x.people(5, 1);
        x.step(3);
        int[] due = {5, 4, 4, 3, 2, 1, 0};
        for (int i = 0; i < due.length; i++) {
            x.step(1);
            is(x, 0, TubeWatch.WALKS, due[i], NONE);
        }
        x.step(1);
        is(x, 0, TubeWatch.OUT, NONE, 30);
    }

    // ---- "goes to the nearest way out"

    /**
     * Who comes now is told in step 7, the next one, and walks in step 10: an even one, for the smoke
     * of the fire in 10, which is 80 then.
     */
    private static TubeWatch told(int doors) {
        return told(10, doors);
    }

    private static TubeWatch told(int fire, int doors) {
        TubeWatch x = Scene.calmFire(fire, 200);
        x.build(doors, 0);
        x.act(TubeWatch.DOORS, 0, false);
        x.act(TubeWatch.TELL, 0, false);
        x.step(Scene.ALARM_STEP);
        return x;
    }

    /** One is out in the step, not in a step behind it; and at a mouth's segment it is the same. */
    private static void ownDoorIsNoughtAway() {
        TubeWatch x = told(4095);
        for (int segment = 0; segment < 12; segment++) {
            x.people(segment, 2);
        }
        x.step(3);
        Check.due("none is out yet", x.count(TubeWatch.OUT), 0);
        x.step(1);
        for (int person = 0; person < 24; person++) {
            is(x, person, TubeWatch.OUT, NONE, 10);
        }
    }

    private static void mouthsAreOneMoreAway() {
        TubeWatch x = told(0);
        for (int segment = 0; segment < 12; segment++) {
            x.people(segment, 1);
        }
        x.step(4);
        is(x, 0, TubeWatch.OUT, NONE, 10);
        is(x, 11, TubeWatch.OUT, NONE, 10);
        for (int segment = 1; segment < 11; segment++) {
            is(x, segment, TubeWatch.WALKS, segment < 6 ? segment - 1 : segment + 1, NONE);
        }
        x.step(4);
        is(x, 5, TubeWatch.WALKS, 0, NONE);
        x.step(1);
        is(x, 5, TubeWatch.OUT, NONE, 15);
        TubeWatch right = told(1, 0);
        right.people(6, 1);
        right.step(8);
        is(right, 0, TubeWatch.WALKS, 11, NONE);
        right.step(1);
        is(right, 0, TubeWatch.OUT, NONE, 15);
    }

    /** Each pair of doors, with one person in each segment. */
    private static void theNearestOfAllWays() {
        for (int lower = 0; lower < 12; lower++) {
            for (int upper = lower; upper < 12; upper++) {
                TubeWatch x = told(1 << lower | 1 << upper);
                for (int segment = 0; segment < 12; segment++) {
                    x.people(segment, 1);
                }
                x.step(4);
                for (int segment = 0; segment < 12; segment++) {
                    String from = "from " + segment + " with doors in " + lower + " and " + upper;
                    Check.due(from, x.person(segment, 1), oneOn(segment, lower, upper));
                }
            }
        }
    }

    /** "of several a door goes ahead of a mouth, the lower segment of doors, the left mouth" */
    private static int oneOn(int from, int lower, int upper) {
        int[] ways = {lower, upper, -1, 12};
        int best = ways[0];
        for (int way : ways) {
            best = Math.abs(way - from) < Math.abs(best - from) ? way : best;
        }
        if (best == from) {
            return NONE;
        }
        int to = best < from ? from - 1 : from + 1;
        return to > 11 ? NONE : to;
    }

    private static void shutDoorsAreNoWay() {
        TubeWatch x = Scene.calmFire(10, 200);
        x.build(1 << 3 | 1 << 5, 0);
        x.act(TubeWatch.DOORS, 0, false);
        x.act(TubeWatch.TELL, 0, false);
        x.failDoor(3, true);
        x.step(Scene.ALARM_STEP);
        for (int segment = 1; segment < 5; segment++) {
            x.people(segment, 1);
        }
        x.step(4);
        is(x, 0, TubeWatch.WALKS, 0, NONE);
        is(x, 1, TubeWatch.WALKS, 3, NONE);
        is(x, 2, TubeWatch.WALKS, 4, NONE);
        is(x, 3, TubeWatch.WALKS, 5, NONE);
    }

    // ---- promise 19 and 21: "all persons are counted by one state"

    private static void thirtyAreCountedByOneState() {
        TubeWatch x = Scene.calmFire(6, 200);
        x.act(TubeWatch.TELL, 2, false);
        for (int segment = 1; segment < 11; segment++) {
            x.people(segment, 3);
        }
        for (int i = 0; i < 30; i++) {
            x.step(1);
            int all = 0;
            for (int state = TubeWatch.SITS; state <= TubeWatch.HURT; state++) {
                all += x.count(state);
            }
            Check.due("all of thirty", all, 30);
            Check.due("balances", x.balances(), true);
        }
        Check.due("out at last", x.count(TubeWatch.OUT) > 0, true);
    }
}
