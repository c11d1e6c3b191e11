/** Promises 6 to 9: what fails. */
public final class FailTest {
    public static void main(String[] args) {
        feedAnswersPower();
        oneFeedIsEnough();
        failingFanStays();
        failingDoorStaysShut();
        failingDoorStaysOpen();
        failingDetectorsDoNotTell();
        Check.end();
    }

    // ---- promise 6

    private static void feedAnswersPower() {
        TubeWatch x = new TubeWatch();
        Check.due("feed(0, true)", x.feed(0, true), true);
        Check.due("feed(1, false)", x.feed(1, false), true);
        Check.due("feed(0, false)", x.feed(0, false), false);
        Check.due("feed(0, false) again", x.feed(0, false), false);
        Check.due("feed(1, true)", x.feed(1, true), true);
        Check.due("feed(1, false) then", x.feed(1, false), false);
        Check.due("feed(0, true) then", x.feed(0, true), true);
    }

    private static void oneFeedIsEnough() {
        TubeWatch x = new TubeWatch();
        x.command(2, -1);
        x.feed(1, false);
        x.step(2);
        Check.due("a fan on one feed", x.fan(2), -1);
        x.feed(0, false);
        x.step(1);
        Check.due("a fan without power", x.fan(2), 0);
        x.step(3);
        Check.due("a fan stays off without power", x.fan(2), 0);
        x.feed(1, true);
        x.step(1);
        Check.due("a fan keeps its command", x.fan(2), -1);
    }

    // ---- promise 7

    private static void failingFanStays() {
        TubeWatch x = new TubeWatch();
        Check.due("failFan(1, true)", x.failFan(1, true), 0);
        for (int i = 0; i < 3; i++) {
            x.command(i, 1);
        }
        x.step(2);
        Check.due("fan 0 turns", x.fan(0), 1);
        Check.due("fan 1 fails", x.fan(1), 0);
        Check.due("fan 2 turns", x.fan(2), 1);
        Check.due("failFan(2, true)", x.failFan(2, true), 1);
        x.feed(0, false);
        x.feed(1, false);
        x.step(2);
        Check.due("fan 0 loses power", x.fan(0), 0);
        Check.due("fan 2 fails as it is", x.fan(2), 1);
        Check.due("failFan(2, false)", x.failFan(2, false), 1);
        x.step(1);
        Check.due("fan 2 turns again", x.fan(2), 0);
        x.failFan(1, false);
        x.feed(0, true);
        x.step(1);
        Check.due("fan 1 keeps what it was commanded", x.fan(1), 1);
    }

    // ---- promise 8

    private static void failingDoorStaysShut() {
        TubeWatch x = withDoors(0b1011);
        Check.due("failDoor(1, true)", x.failDoor(1, true), false);
        x.failDoor(3, true);
        x.failDoor(3, false);
        x.step(8);
        Check.due("door 0 opens", x.segment(0, 4), 1);
        Check.due("door 1 fails", x.segment(1, 4), 0);
        Check.due("door 3 was mended in time", x.segment(3, 4), 1);
        Check.due("failDoor(1, false)", x.failDoor(1, false), false);
        x.step(5);
        Check.due("a mended door stays as it is", x.segment(1, 4), 0);
    }

    private static void failingDoorStaysOpen() {
        TubeWatch x = withDoors(1);
        x.step(8);
        Check.due("failDoor(0, true) of an open one", x.failDoor(0, true), true);
        x.step(1);
        Check.due("an open door that fails stays open", x.segment(0, 4), 1);
        Check.due("failDoor(0, false) of an open one", x.failDoor(0, false), true);
    }

    private static TubeWatch withDoors(int set) {
        TubeWatch x = Scene.calmFire(8, 200);
        x.build(set, 0);
        x.act(TubeWatch.DOORS, 0, false);
        return x;
    }

    // ---- promise 9

    private static void failingDetectorsDoNotTell() {
        TubeWatch x = Scene.calmFire(6, 200);
        Scene.failDetectors(x, 6, true);
        Scene.failDetectors(x, 5, true);
        x.step(12);
        x.people(6, 1);
        Check.due("three fail", x.segment(6, 2), 0);
        Check.due("no alarm", x.alarm(), TubeWatch.NONE);
        for (int i = 0; i < 3; i++) {
            x.failDetector(6, i, false);
            Check.due("those that do not fail up to " + i, x.segment(6, 2), i + 1);
        }
        for (int i = 0; i < 3; i++) {
            x.failDetector(6, i, true);
            Check.due("without " + i, x.segment(6, 2), 2);
            x.failDetector(6, i, false);
        }
        x.failDetector(6, 1, true);
        x.failDetector(6, 2, true);
        x.step(1);
        Check.due("one is not enough", x.alarm(), TubeWatch.NONE);
        x.failDetector(6, 1, false);
        Check.due("the alarm is given in a step alone", x.alarm(), TubeWatch.NONE);
        x.step(1);
        Check.due("two of three", x.alarm(), 6);
    }
}
