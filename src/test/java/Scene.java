/**
 * Objects that tests begin with. A wind of -5 against the 5 of the traffic keeps the flow at 0.0:
 * nothing drifts then, and a tenth of the fire's smoke goes to the left in each step.
 * With a fire of 200 there the smoke of its segment is 1 2 4 7 11 17 25 35 47 62 80 100 behind the
 * steps 0 to 11, its heat 0 0 1 3 6 9 14 20 27: the alarm comes in step 7 by heat and smoke alone.
 */
final class Scene {
    static final int ALARM_STEP = 7;

    private Scene() {
    }

    static TubeWatch calm() {
        TubeWatch x = new TubeWatch();
        x.wind(-5);
        return x;
    }

    static TubeWatch calmFire(int segment, int size) {
        TubeWatch x = calm();
        x.fire(segment, size);
        return x;
    }

    static int allSmoke(TubeWatch x) {
        int sum = x.gone();
        for (int i = 0; i < 12; i++) {
            sum += x.segment(i, 0);
        }
        return sum;
    }

    static void failDetectors(TubeWatch x, int segment, boolean fails) {
        for (int i = 0; i < 3; i++) {
            x.failDetector(segment, i, fails);
        }
    }
}
