import java.util.function.Consumer;

/**
 * Sentences of the document, from its first line to its last, that tell what a call or a part of a step
 * leaves alone, or that hold for all numbers or over many steps; each stands above its tests.
 */
public final class SentenceTest {
    private static final int NONE = TubeWatch.NONE;
    private static final int ALARM = Scene.ALARM_STEP;

    public static void main(String[] args) {
        theLastCallIsAsTheFirst();
        flowIsADouble();
        flowGoesAFourthOfWhatTheAimIsMore();
        aimsOfAllWindsAndFans();
        feedsChangeNothingAtOnce();
        fansThatFailKeepTheirCommand();
        powersOfAllAges();
        theFireDoesNotEnd();
        heatSettlesWhereItIs();
        smokeIsKeptToTheLast();
        theDamperDrawsOffItsOwnSmokeAlone();
        theLastDamperIsTheOne();
        detectorsOfTwoSegmentsAreNotTwo();
        whoeverIsNotOutIsThere();
        theAlarmIsNotTakenBack();
        theChartGoesOnThoughNoneTells();
        allDelaysAreWaited();
        theChartNeedsNoPower();
        fansAreCommandedWithoutPower();
        whatWasDoneHoldsWithoutPower();
        buildLeavesTheRestAlone();
        askingChangesNothing();
        Check.end();
    }

    // ---- "An object is used for at most 512 calls after it has been made"

    /** 511 calls, most of them a step each, and a last one: it answers as if the steps were done at once. */
    private static void theLastCallIsAsTheFirst() {
        TubeWatch atOnce = life();
        for (int i = 0; i < 5; i++) {
            atOnce.step(100);
        }
        atOnce.step(7);
        for (int segment = 0; segment < 12; segment++) {
            Check.due("smoke by the 512th call", after507Steps().segment(segment, 0), atOnce.segment(segment, 0));
        }
        Check.due("gone by the 512th call", after507Steps().gone(), atOnce.gone());
        Check.due("steps by the 512th call", after507Steps().step(100), 607);
    }

    private static TubeWatch life() {
        TubeWatch x = new TubeWatch();
        x.people(3, 30);
        x.wind(-9);
        x.fire(6, 77);
        x.act(TubeWatch.DAMPER, 20, true);
        return x;
    }

    private static TubeWatch after507Steps() {
        TubeWatch x = life();
        for (int i = 0; i < 507; i++) {
            x.step(1);
        }
        return x;
    }

    // ---- "a flow as a double", "becomes itself and a fourth of what the aim is more, as doubles"

    /** Winds, each with its steps; the aim is 5 more than a wind. */
    private static TubeWatch blown(int... windsAndSteps) {
        TubeWatch x = new TubeWatch();
        for (int i = 0; i + 1 < windsAndSteps.length; i += 2) {
            x.wind(windsAndSteps[i]);
            for (int left = windsAndSteps[i + 1]; left > 0; left -= 100) {
                x.step(Math.min(left, 100));
            }
        }
        return x;
    }

    /** A flow as a float, or cut to whole hundredths, millionths or the like, answers 1 more or less. */
    private static void flowIsADouble() {
        Check.due("29 steps to 42", blown(37, 29).flow(), 4198);
        Check.due("5 steps to 26", blown(21, 5).flow(), 1983);
        Check.due("6 steps to 10", blown(5, 6).flow(), 822);
        Check.due("3 steps to -7, 7 to 43", blown(-12, 3, 38, 7).flow(), 3672);
        Check.due("3 steps to -7, 8 to 43", blown(-12, 3, 38, 8).flow(), 3829);
        Check.due("8 steps to -25, 8 to -20", blown(-30, 8, -25, 8).flow(), -2024);
        Check.due("32 steps to 25, 29 to -17", blown(20, 32, -22, 29).flow(), -1699);
    }

    /** A flow comes to rest a little ahead of its aim; three fourths of it and one of the aim rest elsewhere. */
    private static void flowGoesAFourthOfWhatTheAimIsMore() {
        Check.due("120 steps to 1, 1 to 41", blown(-4, 120, 36, 1).flow(), 1099);
        Check.due("120 steps to 4, 2 to 40", blown(-1, 120, 35, 2).flow(), 1975);
        Check.due("122 steps to -1, 1 to -17", blown(-6, 122, -22, 1).flow(), -499);
    }

    // ---- "15 times the states of all fans, the wind, and 5 if traffic is not stopped, together"

    private static void aimsOfAllWindsAndFans() {
        for (int wind = -40; wind <= 40; wind++) {
            for (int all = 0; all < 27; all++) {
                TubeWatch x = new TubeWatch();
                x.wind(wind);
                x.command(0, all % 3 - 1);
                x.command(1, all / 3 % 3 - 1);
                x.command(2, all / 9 - 1);
                x.step(1);
                int aim = 15 * (all % 3 + all / 3 % 3 + all / 9 - 3) + wind + 5;
                Check.due("a wind of " + wind + " and the fans " + all, x.flow(), 25 * aim);
            }
        }
    }

    // ---- promise 6: "Tells whether a feed is up."; fans and flow change in a step alone

    private static void feedsChangeNothingAtOnce() {
        TubeWatch x = new TubeWatch();
        for (int fan = 0; fan < 3; fan++) {
            x.command(fan, 1);
        }
        x.step(1);
        fansAre(x, 1, 1250);
        x.feed(0, false);
        x.feed(1, false);
        fansAre(x, 1, 1250);
        x.step(1);
        fansAre(x, 0, 1062);
        x.feed(1, true);
        fansAre(x, 0, 1062);
        x.step(1);
        fansAre(x, 1, 2046);
    }

    private static void fansAre(TubeWatch x, int state, int flow) {
        for (int fan = 0; fan < 3; fan++) {
            Check.due("fan " + fan, x.fan(fan), state);
        }
        Check.due("the flow by them", x.flow(), flow);
    }

    // ---- promise 7: "Tells whether a fan fails."; its command is as it was, and it turns in a step alone

    private static void fansThatFailKeepTheirCommand() {
        for (int fan = 0; fan < 3; fan++) {
            TubeWatch x = new TubeWatch();
            x.command(fan, 1);
            Check.due("fails", x.failFan(fan, true), 0);
            x.step(3);
            Check.due("mended", x.failFan(fan, false), 0);
            Check.due("mended, but no step was done", x.fan(fan), 0);
            x.step(1);
            Check.due("turns by its old command", x.fan(fan), 1);
            Check.due("fails again", x.failFan(fan, true), 1);
            Check.due("is commanded as it fails", x.command(fan, -1), 1);
            x.step(3);
            Check.due("mended again", x.failFan(fan, false), 1);
            x.step(1);
            Check.due("turns by 1", x.fan(fan), 0);
            x.step(1);
            Check.due("turns by its new command", x.fan(fan), -1);
        }
    }

    // ---- "the lesser of its size and of 1 more than the square of its age by 4, rounded down"

    private static void powersOfAllAges() {
        for (int size = 1; size <= 200; size++) {
            TubeWatch x = Scene.calmFire(size % 12, size);
            int all = 0;
            for (int age = 0; age < 32; age++) {
                x.step(1);
                all += Math.min(size, 1 + age * age / 4);
                Check.due("smoke of a fire of " + size + " at the age of " + age, Scene.allSmoke(x), all);
            }
        }
    }

    // ---- promise 5: "IllegalStateException if there is one": foam, damper and age end no fire

    private static void theFireDoesNotEnd() {
        TubeWatch x = Scene.calmFire(6, 2);
        x.act(TubeWatch.FOAM, 0, false);
        x.act(TubeWatch.DAMPER, 0, false);
        x.step(12);
        x.people(6, 1);
        for (int i = 0; i < 50; i++) {
            x.step(100);
        }
        Check.due("foam is on", x.done(0) != NONE, true);
        int before = Scene.allSmoke(x);
        x.step(100);
        Check.due("it burns still", Scene.allSmoke(x) - before, 200);
        Check.noState("a second fire", () -> x.fire(3, 9));
    }

    // ---- "Of all heat a fourth, rounded up, goes.": it goes nowhere else

    /** Of 597 and 200 more 200 go. */
    private static void heatSettlesWhereItIs() {
        for (int fire = 0; fire < 12; fire++) {
            TubeWatch x = new TubeWatch();
            x.fire(fire, 200);
            for (int wind = -40; wind <= 40; wind += 20) {
                x.wind(wind);
                x.step(20);
            }
            for (int segment = 0; segment < 12; segment++) {
                Check.due("heat of " + segment + " by a fire in " + fire, x.segment(segment, 1), segment == fire ? 597 : 0);
            }
        }
    }

    // ---- "smoke that is kept to the last"

    /** All that was made is in the tube or gone, in each step, whatever the flow. */
    private static void smokeIsKeptToTheLast() {
        for (int fire = 0; fire < 12; fire++) {
            TubeWatch x = new TubeWatch();
            x.build(0, fire);
            x.fire(fire, 150);
            x.act(TubeWatch.DAMPER, 20, true);
            int all = 0;
            for (int age = 0; age < 30; age++) {
                x.wind(age * 37 % 81 - 40);
                x.command(age % 3, age % 2 * 2 - 1);
                x.step(1);
                all += Math.min(150, 1 + age * age / 4);
                Check.due("smoke at the age of " + age, Scene.allSmoke(x), all);
            }
        }
    }

    // ---- "If the damper is open, a third of what is in its segment then ... is drawn off."

    /** The same but for the damper: behind the first step in which it draws. */
    private static void theDamperDrawsOffItsOwnSmokeAlone() {
        for (int damper = 4; damper < 9; damper++) {
            for (int wind : new int[] {-12, -5, 2, 30}) {
                TubeWatch open = aheadOfTheDamper(TubeWatch.DAMPER, damper, wind);
                TubeWatch shut = aheadOfTheDamper(TubeWatch.OFF, damper, wind);
                open.step(1);
                shut.step(1);
                for (int i = 0; i < 12; i++) {
                    int smoke = shut.segment(i, 0);
                    Check.due("smoke of " + i, open.segment(i, 0), i == damper ? smoke - smoke / 3 : smoke);
                    Check.due("heat of " + i, open.segment(i, 1), shut.segment(i, 1));
                }
                Check.due("drawn off", open.gone() - shut.gone(), shut.segment(damper, 0) / 3);
            }
        }
    }

    private static TubeWatch aheadOfTheDamper(int kind, int damper, int wind) {
        TubeWatch x = new TubeWatch();
        x.build(0, damper);
        x.wind(wind);
        x.fire(6, 200);
        x.act(kind, 15, false);
        for (int i = 0; i < 60 && x.done(0) == NONE; i++) {
            x.step(1);
        }
        Check.due("the act is done", x.done(0) != NONE, true);
        return x;
    }

    // ---- promise 2: "and where the damper is"

    private static void theLastDamperIsTheOne() {
        int[][] places = {{5, 6, 15}, {11, 6, 15}, {6, 5, 4}, {11, 5, 4}, {5, 11, 0}, {6, 11, 0}};
        for (int[] place : places) {
            TubeWatch x = Scene.calmFire(6, 200);
            x.build(0, place[0]);
            x.build(0, place[1]);
            x.act(TubeWatch.DAMPER, 0, false);
            x.step(ALARM + 2);
            Check.due("a damper in " + place[0] + ", then in " + place[1], x.gone(), place[2]);
        }
    }

    // ---- "the lowest segment in which two of them tell"

    /** Heat or smoke tells in 6, smoke tells in 5: two tell, but not in one segment. */
    private static void detectorsOfTwoSegmentsAreNotTwo() {
        for (int detector = 0; detector < 2; detector++) {
            TubeWatch x = Scene.calmFire(6, 200);
            x.failDetector(6, detector, true);
            x.step(60);
            Check.due("one tells in 5", x.segment(5, 2), 1);
            Check.due("one tells in 6", x.segment(6, 2), 1);
            Check.due("that is no alarm", x.alarm(), NONE);
            x.failDetector(6, detector, false);
            x.step(1);
            Check.due("two tell in 6", x.alarm(), 6);
        }
    }

    // ---- "the third one, if a person who is not out is there": one who sits, gets ready, walks

    /** A fire of 5 has 40 of smoke behind step 18: one who comes in step 16 stays in step 19. */
    private static void whoeverIsNotOutIsThere() {
        TubeWatch x = Scene.calmFire(6, 5);
        x.failDetector(6, 0, true);
        x.failDetector(6, 1, true);
        x.step(16);
        Check.due("nobody", x.segment(6, 2), 0);
        x.people(6, 1);
        third(x, TubeWatch.SITS, 1);
        x.step(1);
        third(x, TubeWatch.READY, 1);
        x.step(3);
        third(x, TubeWatch.WALKS, 1);
        x.failDetector(6, 1, false);
        x.step(1);
        Check.due("one who went in the step was there", x.alarm(), 6);
        x.failDetector(6, 1, true);
        third(x, TubeWatch.WALKS, 0);
    }

    private static void third(TubeWatch x, int state, int due) {
        Check.due("state", x.person(0, 0), state);
        Check.due("the third detector by one of the state " + state, x.segment(6, 2), due);
    }

    // ---- "The alarm is given, once"

    private static void theAlarmIsNotTakenBack() {
        TubeWatch x = Scene.calmFire(6, 200);
        x.step(ALARM + 1);
        Scene.failDetectors(x, 6, true);
        Check.due("none tells in 6", x.segment(6, 2), 0);
        x.step(1);
        Check.due("the alarm stays", x.alarm(), 6);
        x.step(60);
        x.people(5, 1);
        x.step(1);
        Check.due("two tell in 5", x.segment(5, 2), 2);
        Check.due("the alarm stays in 6", x.alarm(), 6);
    }

    // ---- "From the step in which the alarm is given on, the first one waits ... then the next one waits, and so on"

    private static void theChartGoesOnThoughNoneTells() {
        TubeWatch x = Scene.calmFire(6, 200);
        x.act(TubeWatch.OFF, 2, false);
        x.act(TubeWatch.OFF, 3, true);
        x.step(ALARM + 1);
        for (int segment = 0; segment < 12; segment++) {
            Scene.failDetectors(x, segment, true);
        }
        x.step(30);
        Check.due("the first act", x.done(0), ALARM + 2);
        Check.due("the second act", x.done(1), ALARM + 11);
    }

    private static void allDelaysAreWaited() {
        for (int delay = 0; delay <= 20; delay++) {
            TubeWatch x = Scene.calmFire(6, 200);
            x.act(TubeWatch.OFF, delay, false);
            x.act(TubeWatch.OFF, delay, true);
            x.act(TubeWatch.OFF, delay, false);
            x.step(100);
            Check.due("a delay of " + delay, x.done(0), ALARM + delay);
            Check.due("a failed one of " + delay, x.done(1), ALARM + delay + 2 * delay + 3);
            Check.due("one behind a failed one of " + delay, x.done(2), ALARM + delay + 2 * delay + 3 + delay);
        }
    }

    // ---- power is wanted by fans and foam alone

    private static TubeWatch dark() {
        TubeWatch x = Scene.calmFire(6, 200);
        x.build(1 << 3, 6);
        x.people(0, 1);
        x.feed(0, false);
        x.feed(1, false);
        return x;
    }

    private static void theChartNeedsNoPower() {
        TubeWatch x = dark();
        int[] kinds = {TubeWatch.STOP, TubeWatch.TELL, TubeWatch.DOORS, TubeWatch.DAMPER, TubeWatch.FOAM};
        for (int kind : kinds) {
            x.act(kind, 0, false);
        }
        x.step(ALARM + 1);
        Check.due("detectors tell", x.segment(6, 2), 2);
        Check.due("the alarm", x.alarm(), 6);
        for (int i = 0; i < kinds.length; i++) {
            Check.due("act " + i, x.done(i), ALARM);
        }
        Check.due("TELL", x.person(0, 0), TubeWatch.READY);
        Check.due("DOORS", x.segment(3, 4), 1);
        int before = Scene.allSmoke(x);
        x.step(1);
        Check.due("STOP", x.flow(), -125);
        Check.due("DAMPER", x.gone() > 0, true);
        Check.due("no foam", Scene.allSmoke(x) - before, 17);
        x.feed(1, true);
        x.step(1);
        Check.due("FOAM, as there is power", Scene.allSmoke(x) - before, 17 + 10);
    }

    private static void fansAreCommandedWithoutPower() {
        int[] kinds = {TubeWatch.LEFT, TubeWatch.RIGHT, TubeWatch.OFF};
        int[] states = {-1, 1, 0};
        for (int k = 0; k < kinds.length; k++) {
            TubeWatch x = dark();
            for (int fan = 0; fan < 3; fan++) {
                x.command(fan, k == 0 ? 1 : -1);
            }
            x.act(kinds[k], 0, false);
            x.step(ALARM + 3);
            fansOf(x, 0);
            x.feed(0, true);
            x.step(1);
            fansOf(x, states[k]);
        }
    }

    private static void fansOf(TubeWatch x, int state) {
        for (int fan = 0; fan < 3; fan++) {
            Check.due("fan " + fan, x.fan(fan), state);
        }
    }

    private static void whatWasDoneHoldsWithoutPower() {
        TubeWatch x = Scene.calmFire(6, 200);
        x.build(1 << 3, 6);
        x.act(TubeWatch.DOORS, 0, false);
        x.act(TubeWatch.DAMPER, 0, false);
        x.act(TubeWatch.STOP, 0, false);
        x.act(TubeWatch.TELL, 0, false);
        x.step(ALARM + 1);
        x.feed(0, false);
        x.feed(1, false);
        x.step(60);
        Check.due("the door is open", x.segment(3, 4), 1);
        Check.due("traffic is stopped", x.flow(), -499);
        int gone = x.gone();
        x.people(0, 1);
        x.step(1);
        Check.due("the damper draws off", x.gone() - gone >= 66, true);
        Check.due("persons are told", x.person(0, 0), TubeWatch.READY);
    }

    // ---- promise 2: build "Tells where doors are ... and where the damper is", and nothing else

    private static void buildLeavesTheRestAlone() {
        leftAlone("wind, fire and persons", x -> {
            x.wind(-30);
            x.fire(6, 90);
            x.people(3, 2);
        });
        leftAlone("acts", x -> {
            x.fire(6, 200);
            x.people(1, 3);
            x.act(TubeWatch.TELL, 1, false);
            x.act(TubeWatch.DOORS, 2, true);
            x.act(TubeWatch.DAMPER, 2, false);
        });
        leftAlone("commands", x -> {
            x.command(0, 1);
            x.command(1, -1);
            x.command(2, 1);
        });
        leftAlone("fans that fail", x -> {
            x.command(0, 1);
            x.command(1, 1);
            x.failFan(1, true);
        });
        leftAlone("feeds", x -> {
            x.command(0, 1);
            x.feed(0, false);
            x.feed(1, false);
        });
        leftAlone("detectors that fail", x -> {
            x.fire(6, 200);
            x.failDetector(6, 0, true);
            x.failDetector(5, 1, true);
            x.failDetector(7, 2, true);
        });
    }

    private static void leftAlone(String name, Consumer<TubeWatch> calls) {
        for (int steps : new int[] {1, 8, 20, 60}) {
            TubeWatch behind = new TubeWatch();
            behind.build(1 << 1 | 1 << 4, 8);
            calls.accept(behind);
            behind.step(steps);
            TubeWatch ahead = new TubeWatch();
            calls.accept(ahead);
            ahead.build(1 << 1 | 1 << 4, 8);
            ahead.step(steps);
            String due = Twin.answers(behind);
            String got = Twin.answers(ahead);
            Check.due(name + " ahead of build: " + due + " became " + got, got.equals(due), true);
        }
    }

    // ---- promises 13 to 21: a question changes nothing

    private static void askingChangesNothing() {
        for (int kind = 0; kind < Lives.NAMES.length; kind++) {
            for (int steps = 1; steps < 40; steps += 6) {
                TubeWatch asked = Lives.make(kind);
                TubeWatch spared = Lives.make(kind);
                Twin.answers(asked);
                asked.step(steps);
                spared.step(steps);
                String due = Twin.answers(spared);
                String got = Twin.answers(asked);
                Check.due("asked when " + Lives.NAMES[kind] + ": " + due + " became " + got, got.equals(due), true);
            }
        }
    }
}
