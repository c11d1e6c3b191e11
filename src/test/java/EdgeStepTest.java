/**
 * The bounds that the document names in a step's parts 1 to 5: fans, flow, fire, smoke and heat, detectors.
 * In a calm (see Scene) a fire of a size S fills its segment to 9 times S at most, for a tenth backs then.
 */
public final class EdgeStepTest {
    public static void main(String[] args) {
        fansTurnByOne();
        fansWithoutPowerGoToNought();
        fansThatFailStay();
        aimIsNinetyAtMost();
        aimOfMinusEightyFive();
        flowIsCutTowardsNought();
        powerIsHeldByTheSize();
        powerIsRoundedDown();
        ageBeginsAsItIsTold();
        halfAPowerIsRoundedDown();
        waterIsThirty();
        waterIsKeptWithoutPower();
        flowUnderOneMovesNoSmoke();
        flowOfOneMovesOneOfAHundred();
        smokeThatMovesIsRoundedDown();
        smokeLeavesByBothMouths();
        aTenthIsRoundedDown();
        aTenthIsOfWhatIsThereThen();
        backsToTheRightUnderNought();
        backsToTheLeftFromNoughtOn();
        backsOutByBothMouths();
        noFireNoBacking();
        aThirdIsRoundedDown();
        aThirdIsOfWhatIsThereThen();
        aFourthOfHeatIsRoundedUp();
        firstDetectorTellsFromTwentyOn();
        secondDetectorTellsFromFifteenOn();
        thirdDetectorTellsFromTenOn();
        thirdDetectorWantsOneWhoIsNotOut();
        oneDetectorIsTooFew();
        threeDetectorsAreEnough();
        lowestSegmentOfAll();
        alarmIsGivenOnce();
        Check.end();
    }

    // ---- 1: "otherwise to its command by 1", "without power its state goes to 0 by 1", "stays as it is"

    private static void fansTurnByOne() {
        for (int fan = 0; fan < 3; fan++) {
            TubeWatch x = new TubeWatch();
            x.command(fan, -1);
            fanGoes(x, fan, -1, -1);
            x.command(fan, 1);
            fanGoes(x, fan, 0, 1, 1);
            x.command(fan, -1);
            fanGoes(x, fan, 0, -1, -1);
            x.command(fan, 0);
            fanGoes(x, fan, 0, 0);
        }
    }

    private static void fanGoes(TubeWatch x, int fan, int... due) {
        for (int i = 0; i < due.length; i++) {
            x.step(1);
            Check.due("fan " + fan + " behind " + (i + 1) + " steps", x.fan(fan), due[i]);
        }
    }

    private static TubeWatch leftOffRight() {
        TubeWatch x = new TubeWatch();
        for (int fan = 0; fan < 3; fan++) {
            x.command(fan, fan - 1);
        }
        x.step(1);
        return x;
    }

    private static void fansWithoutPowerGoToNought() {
        TubeWatch x = leftOffRight();
        x.command(1, 1);
        x.feed(0, false);
        fanGoes(x, 1, 1);
        Check.due("fan 0 on one feed", x.fan(0), -1);
        x.feed(1, false);
        x.step(1);
        for (int fan = 0; fan < 3; fan++) {
            Check.due("fan " + fan + " without power", x.fan(fan), 0);
        }
        x.step(2);
        for (int fan = 0; fan < 3; fan++) {
            Check.due("fan " + fan + " off stays off", x.fan(fan), 0);
        }
    }

    private static void fansThatFailStay() {
        TubeWatch x = leftOffRight();
        for (int fan = 0; fan < 3; fan++) {
            Check.due("failFan(" + fan + ")", x.failFan(fan, true), fan - 1);
            x.command(fan, 1 - fan);
        }
        x.command(1, 1);
        x.step(2);
        for (int fan = 0; fan < 3; fan++) {
            Check.due("fan " + fan + " fails with power", x.fan(fan), fan - 1);
        }
        x.feed(0, false);
        x.feed(1, false);
        x.step(2);
        for (int fan = 0; fan < 3; fan++) {
            Check.due("fan " + fan + " fails without power", x.fan(fan), fan - 1);
        }
    }

    // ---- 2: "held to -90 to 90", "a fourth of what the aim is more"

    /** Three fans, a wind of 40 and traffic are 90: the most that there is, and not held. */
    private static void aimIsNinetyAtMost() {
        TubeWatch x = new TubeWatch();
        for (int fan = 0; fan < 3; fan++) {
            x.command(fan, 1);
        }
        x.wind(40);
        flowGoes(x, 2250, 3937, 5203, 6152);
    }

    /** Three fans and a wind to the left without traffic are -85: the least that there is. */
    private static void aimOfMinusEightyFive() {
        TubeWatch moving = new TubeWatch();
        TubeWatch stopped = Scene.calmFire(6, 200);
        stopped.act(TubeWatch.STOP, 0, false);
        stopped.step(Scene.ALARM_STEP + 1);
        for (int fan = 0; fan < 3; fan++) {
            moving.command(fan, -1);
            stopped.command(fan, -1);
        }
        moving.wind(-40);
        stopped.wind(-40);
        flowGoes(moving, -2000, -3500, -4625);
        flowGoes(stopped, -2125, -3718, -4914);
    }

    private static void flowGoes(TubeWatch x, int... due) {
        for (int i = 0; i < due.length; i++) {
            x.step(1);
            Check.due("flow behind " + (i + 1) + " steps", x.flow(), due[i]);
        }
    }

    /** Flows of 1.25, 2.1875 and -0.25, -0.4375, -0.578125; promise 14: "cut to a whole number". */
    private static void flowIsCutTowardsNought() {
        flowGoes(new TubeWatch(), 125, 218);
        TubeWatch left = new TubeWatch();
        left.wind(-6);
        flowGoes(left, -25, -43, -57);
        TubeWatch calm = Scene.calm();
        flowGoes(calm, 0, 0);
    }

    // ---- 3: "the lesser of its size and of 1 more than the square of its age by 4, rounded down"

    /** At the age of 28 the square's fourth and 1 are 197, at the age of 29 they are 211. */
    private static void powerIsHeldByTheSize() {
        int[] sizes = {1, 2, 196, 197, 198, 200};
        int[] at28 = {1, 2, 196, 197, 197, 197};
        int[] at29 = {1, 2, 196, 197, 198, 200};
        for (int i = 0; i < sizes.length; i++) {
            TubeWatch x = Scene.calmFire(6, sizes[i]);
            x.step(28);
            int before = Scene.allSmoke(x);
            x.step(1);
            Check.due("power of " + sizes[i] + " at 28", Scene.allSmoke(x) - before, at28[i]);
            x.step(1);
            Check.due("power of " + sizes[i] + " at 29", Scene.allSmoke(x) - before, at28[i] + at29[i]);
        }
    }

    private static void powerIsRoundedDown() {
        int[] powers = {1, 1, 2, 3, 5, 7, 10, 13};
        TubeWatch x = Scene.calmFire(6, 200);
        int all = 0;
        for (int age = 0; age < powers.length; age++) {
            x.step(1);
            all += powers[age];
            Check.due("all smoke at the age of " + age, Scene.allSmoke(x), all);
        }
    }

    private static void ageBeginsAsItIsTold() {
        TubeWatch x = Scene.calm();
        x.step(57);
        x.fire(6, 200);
        Check.due("smoke as the fire is told", x.segment(6, 0), 0);
        int[] due = {1, 2, 4};
        for (int age = 0; age < due.length; age++) {
            x.step(1);
            Check.due("smoke of a late fire at the age of " + age, x.segment(6, 0), due[age]);
        }
    }

    // ---- 3: "a half of that, rounded down, if there is foam", "30 at first; without water, or power, there is none"

    /**
     * A fire of 1 has 9 of smoke in 6 behind step 8, and 1 more backs to 5 in each step from then on:
     * 15 are there in step 23, in which one who came for it makes the second detector of two.
     */
    private static TubeWatch smallest() {
        TubeWatch x = Scene.calmFire(6, 1);
        x.act(TubeWatch.FOAM, 0, false);
        x.act(TubeWatch.DAMPER, 0, false);
        x.step(23);
        x.people(5, 1);
        x.step(1);
        Check.due("alarm of the smallest fire", x.alarm(), 5);
        Check.due("foam of the smallest fire", x.done(0), 23);
        return x;
    }

    private static void halfAPowerIsRoundedDown() {
        TubeWatch x = smallest();
        x.step(1);
        Check.due("a half of 1", Scene.allSmoke(x), 24);
        TubeWatch three = Scene.calmFire(6, 3);
        three.act(TubeWatch.FOAM, 0, false);
        three.step(7);
        three.people(6, 1);
        three.step(1);
        Check.due("smoke of a fire of 3", Scene.allSmoke(three), 19);
        three.step(1);
        Check.due("a half of 3", Scene.allSmoke(three), 20);
    }

    private static void waterIsThirty() {
        TubeWatch x = smallest();
        x.step(29);
        Check.due("twenty-nine steps of foam", Scene.allSmoke(x), 24);
        x.step(1);
        Check.due("thirty steps of foam", Scene.allSmoke(x), 24);
        x.step(1);
        Check.due("the first step without water", Scene.allSmoke(x), 25);
        x.step(1);
        Check.due("the second step without water", Scene.allSmoke(x), 26);
    }

    private static void waterIsKeptWithoutPower() {
        TubeWatch x = smallest();
        x.step(29);
        x.feed(0, false);
        x.step(1);
        Check.due("one feed is power for foam", Scene.allSmoke(x), 24);
        TubeWatch dark = smallest();
        dark.feed(0, false);
        dark.feed(1, false);
        dark.step(5);
        Check.due("no foam without power", Scene.allSmoke(dark), 29);
        dark.feed(1, true);
        dark.step(30);
        Check.due("all water is there yet", Scene.allSmoke(dark), 29);
        dark.step(1);
        Check.due("the water ends", Scene.allSmoke(dark), 30);
    }

    // ---- 4: "the flow, without sign, is cut to a whole number", "by 100, rounded down", "out of the tube"

    private static void flowUnderOneMovesNoSmoke() {
        TubeWatch right = new TubeWatch();
        right.wind(-4);
        right.fire(6, 200);
        right.step(60);
        Check.due("a flow of nearly 1", right.flow(), 99);
        Check.due("nothing drifts to the right", right.segment(7, 0), 0);
        Check.due("nothing goes on to the left", right.segment(4, 0), 0);
        TubeWatch left = new TubeWatch();
        left.wind(-6);
        left.fire(6, 200);
        left.step(60);
        Check.due("a flow of nearly -1", left.flow(), -99);
        Check.due("nothing drifts to the left", left.segment(5, 0), 0);
        Check.due("nothing goes on to the right", left.segment(8, 0), 0);
    }

    /** Behind step 11 a calm fire of 200 has 100 of smoke in 6, and 37 in 5: 137 and 37 are there in step 12. */
    private static void flowOfOneMovesOneOfAHundred() {
        int[] winds = {-9, -8, -2, -1};
        int[] flows = {-100, -75, 75, 100};
        int[] inFive = {38, 37, 50, 50};
        int[] inSeven = {13, 13, 0, 1};
        for (int i = 0; i < winds.length; i++) {
            TubeWatch x = Scene.calmFire(6, 200);
            x.step(12);
            x.wind(winds[i]);
            x.step(1);
            Check.due("flow with a wind of " + winds[i], x.flow(), flows[i]);
            Check.due("smoke of 5 with a flow of " + flows[i], x.segment(5, 0), inFive[i]);
            Check.due("smoke of 7 with a flow of " + flows[i], x.segment(7, 0), inSeven[i]);
        }
    }

    /** A flow of nearly 11 moves 10 of 100: of 9 nothing, of 10 one. */
    private static TubeWatch tenOfHundred(int side, int segment) {
        TubeWatch x = new TubeWatch();
        x.wind(side > 0 ? 6 : -16);
        x.step(100);
        x.fire(segment, 1);
        return x;
    }

    private static void smokeThatMovesIsRoundedDown() {
        for (int side = -1; side <= 1; side += 2) {
            TubeWatch x = tenOfHundred(side, 6);
            x.step(9);
            Check.due("smoke of 9 stays", x.segment(6, 0), 9);
            Check.due("nothing of 9 moves", x.segment(6 + side, 0), 0);
            x.step(1);
            Check.due("smoke of 10 goes", x.segment(6, 0), 9);
            Check.due("one of 10 moves", x.segment(6 + side, 0), 1);
            Check.due("nothing goes two on", x.segment(6 + 2 * side, 0), 0);
        }
    }

    private static void smokeLeavesByBothMouths() {
        for (int side = -1; side <= 1; side += 2) {
            int last = side > 0 ? 11 : 0;
            TubeWatch x = tenOfHundred(side, last);
            x.step(9);
            Check.due("nothing is gone yet", x.gone(), 0);
            x.step(1);
            Check.due("one is gone", x.gone(), 1);
            Check.due("what is left", x.segment(last, 0), 9);
            Check.due("nothing comes in again", x.segment(11 - last, 0), 0);
        }
    }

    // ---- 4: "a tenth of what is in its segment then, rounded down", "to the left with a flow of 0.0 or more"

    private static void aTenthIsRoundedDown() {
        TubeWatch one = Scene.calmFire(6, 1);
        one.step(9);
        Check.due("nothing backs of 9", one.segment(5, 0), 0);
        one.step(1);
        Check.due("one backs of 10", one.segment(5, 0), 1);
        Check.due("9 are left of 10", one.segment(6, 0), 9);
        TubeWatch two = Scene.calmFire(6, 2);
        two.step(16);
        Check.due("one backed of 10 to 19", two.segment(5, 0), 12);
        two.step(1);
        Check.due("two back of 20", two.segment(5, 0), 14);
    }

    /** Of 10 one drifts, and what is left is too little for a tenth: nothing backs. */
    private static void aTenthIsOfWhatIsThereThen() {
        for (int side = -1; side <= 1; side += 2) {
            TubeWatch x = tenOfHundred(side, 6);
            x.step(10);
            Check.due("nothing backs of 9", x.segment(6 - side, 0), 0);
        }
    }

    private static void backsToTheRightUnderNought() {
        TubeWatch x = new TubeWatch();
        x.wind(-6);
        x.fire(6, 200);
        x.step(5);
        Check.due("a flow of -0.76", x.flow(), -76);
        Check.due("backs to the right", x.segment(7, 0), 1);
        Check.due("not to the left", x.segment(5, 0), 0);
    }

    private static void backsToTheLeftFromNoughtOn() {
        for (int wind = -5; wind <= -4; wind++) {
            TubeWatch x = new TubeWatch();
            x.wind(wind);
            x.fire(6, 200);
            x.step(5);
            Check.due("a flow of 0.0 or a little more", x.flow(), wind == -5 ? 0 : 76);
            Check.due("backs to the left", x.segment(5, 0), 1);
            Check.due("not to the right", x.segment(7, 0), 0);
        }
    }

    private static void backsOutByBothMouths() {
        for (int side = 0; side < 2; side++) {
            int last = side == 0 ? 0 : 11;
            TubeWatch x = new TubeWatch();
            x.wind(side == 0 ? -5 : -6);
            x.fire(last, 200);
            x.step(4);
            Check.due("nothing backs out yet", x.gone(), 0);
            x.step(1);
            Check.due("one backs out", x.gone(), 1);
            Check.due("nothing backs in again", x.segment(11 - last, 0), 0);
            Check.due("what is left", x.segment(last, 0), 11);
        }
    }

    /** What backed to 5 stays there: a tenth goes from the fire's own segment alone. */
    private static void noFireNoBacking() {
        TubeWatch x = Scene.calmFire(6, 200);
        x.step(40);
        Check.due("much smoke beside the fire", x.segment(5, 0) > 100, true);
        Check.due("none goes further", x.segment(4, 0), 0);
        Check.due("none goes out", x.gone(), 0);
    }

    // ---- 4: "a third of what is in its segment then, rounded down"

    /** The 9 of the smallest fire, with foam on it and the damper in 6: 6, 4, 3, 2, and no third of 2. */
    private static void aThirdIsRoundedDown() {
        TubeWatch x = smallest();
        int[] due = {6, 4, 3, 2, 2, 2};
        for (int i = 0; i < due.length; i++) {
            x.step(1);
            Check.due("smoke at the damper behind " + (i + 1), x.segment(6, 0), due[i]);
            Check.due("drawn off behind " + (i + 1), x.gone(), 9 - due[i]);
        }
    }

    /** 35 and 17 more are 52; 5 back, and 15 of the 47 that are there then are drawn off. */
    private static void aThirdIsOfWhatIsThereThen() {
        TubeWatch x = Scene.calmFire(6, 200);
        x.act(TubeWatch.DAMPER, 0, false);
        x.step(8);
        Check.due("the damper opens behind the smoke", x.gone(), 0);
        x.step(1);
        Check.due("a third of 47", x.gone(), 15);
        Check.due("the rest of 47", x.segment(6, 0), 32);
    }

    // ---- 4: "Of all heat a fourth, rounded up, goes."

    /** A fire of 3: of 1, 1, 2, 4, 6, 7, 8, 9, 9 go 1, 1, 1, 1, 2, 2, 2, 3, 3. */
    private static void aFourthOfHeatIsRoundedUp() {
        int[] due = {0, 0, 1, 3, 4, 5, 6, 6, 6};
        TubeWatch x = Scene.calmFire(6, 3);
        for (int i = 0; i < due.length; i++) {
            x.step(1);
            Check.due("heat behind " + (i + 1), x.segment(6, 1), due[i]);
        }
    }

    // ---- 5: "at least 20", "at least 15", "at least 10", "two of them", "once", "the lowest segment"

    private static void only(TubeWatch x, int segment, int detector) {
        for (int i = 0; i < 3; i++) {
            x.failDetector(segment, i, i != detector);
        }
    }

    private static void firstDetectorTellsFromTwentyOn() {
        TubeWatch x = Scene.calmFire(6, 8);
        only(x, 6, 0);
        x.step(11);
        Check.due("heat of 19", x.segment(6, 1), 19);
        Check.due("does not tell", x.segment(6, 2), 0);
        x.step(1);
        Check.due("heat of 20", x.segment(6, 1), 20);
        Check.due("tells", x.segment(6, 2), 1);
    }

    private static void secondDetectorTellsFromFifteenOn() {
        TubeWatch x = Scene.calmFire(6, 2);
        only(x, 6, 1);
        x.step(11);
        Check.due("smoke of 14", x.segment(6, 0), 14);
        Check.due("does not tell", x.segment(6, 2), 0);
        x.step(1);
        Check.due("smoke of 15", x.segment(6, 0), 15);
        Check.due("tells", x.segment(6, 2), 1);
    }

    private static void thirdDetectorTellsFromTenOn() {
        TubeWatch x = Scene.calmFire(6, 2);
        only(x, 6, 2);
        x.step(6);
        x.people(6, 1);
        Check.due("smoke of 9", x.segment(6, 0), 9);
        Check.due("does not tell", x.segment(6, 2), 0);
        x.step(1);
        Check.due("smoke of 10", x.segment(6, 0), 10);
        Check.due("tells", x.segment(6, 2), 1);
        TubeWatch nobody = Scene.calmFire(6, 2);
        only(nobody, 6, 2);
        nobody.people(5, 1);
        nobody.people(7, 1);
        nobody.step(20);
        Check.due("nobody is there", nobody.segment(6, 2), 0);
    }

    /** One in 0 gets ready in step 6, and is out by the left mouth in step 9. */
    private static void thirdDetectorWantsOneWhoIsNotOut() {
        TubeWatch x = Scene.calmFire(0, 2);
        x.people(0, 1);
        x.step(9);
        Check.due("one is there", x.segment(0, 2), 1);
        x.step(1);
        Check.due("one is out", x.person(0, 0), TubeWatch.OUT);
        Check.due("smoke is there", x.segment(0, 0), 13);
        Check.due("one who is out does not count", x.segment(0, 2), 0);
        TubeWatch hurt = Scene.calmFire(6, 200);
        Scene.failDetectors(hurt, 6, true);
        hurt.step(12);
        hurt.people(6, 1);
        hurt.step(1);
        only(hurt, 6, 2);
        Check.due("one is hurt", hurt.person(0, 0), TubeWatch.HURT);
        Check.due("one who is hurt counts", hurt.segment(6, 2), 1);
    }

    private static void oneDetectorIsTooFew() {
        for (int detector = 0; detector < 3; detector++) {
            TubeWatch x = Scene.calmFire(6, 200);
            only(x, 6, detector);
            Scene.failDetectors(x, 5, true);
            x.step(20);
            x.people(6, 1);
            x.step(1);
            Check.due("one tells", x.segment(6, 2), 1);
            Check.due("one is too few", x.alarm(), TubeWatch.NONE);
            x.failDetector(6, (detector + 1) % 3, false);
            x.step(1);
            Check.due("two tell", x.segment(6, 2), 2);
            Check.due("two are enough", x.alarm(), 6);
        }
    }

    private static void threeDetectorsAreEnough() {
        TubeWatch x = Scene.calmFire(6, 200);
        Scene.failDetectors(x, 6, true);
        x.step(9);
        x.people(6, 1);
        Scene.failDetectors(x, 6, false);
        Check.due("three tell", x.segment(6, 2), 3);
        Check.due("the alarm is given in a step", x.alarm(), TubeWatch.NONE);
        x.step(1);
        Check.due("three are enough", x.alarm(), 6);
    }

    /** The segments 0 and 1, then 10 and 11, tell in the same step. */
    private static void lowestSegmentOfAll() {
        for (int fire : new int[] {1, 11}) {
            TubeWatch x = Scene.calmFire(fire, 200);
            Scene.failDetectors(x, fire, true);
            Scene.failDetectors(x, fire - 1, true);
            x.step(20);
            x.people(fire, 1);
            x.people(fire - 1, 1);
            Scene.failDetectors(x, fire, false);
            Scene.failDetectors(x, fire - 1, false);
            x.step(1);
            Check.due("the lower of two", x.alarm(), fire - 1);
        }
    }

    private static void alarmIsGivenOnce() {
        TubeWatch x = Scene.calmFire(6, 200);
        x.act(TubeWatch.OFF, 2, false);
        x.step(40);
        x.people(5, 1);
        Scene.failDetectors(x, 6, true);
        x.step(5);
        Check.due("a lower segment tells later", x.segment(5, 2) >= 2, true);
        Check.due("the first one tells no more", x.segment(6, 2), 0);
        Check.due("the alarm stays", x.alarm(), 6);
        Check.due("the chart is done once", x.done(0), Scene.ALARM_STEP + 2);
    }
}
