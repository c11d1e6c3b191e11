/**
 * Each argument of each call: the least and the most of its range, one less and one more, and numbers
 * far off, of which some wrap around into the range if they are multiplied or cut. What is refused is
 * refused in each state of an object, and changes nothing.
 */
public final class EdgeArgumentTest {
    private static final Class<IndexOutOfBoundsException> INDEX = IndexOutOfBoundsException.class;
    private static final Class<IllegalArgumentException> ARGUMENT = IllegalArgumentException.class;

    // 1431655766 times 3 wraps around to 2; 65536 and 256 are 0 in a short and in a byte.
    private static final int[] FAR = {
        Integer.MIN_VALUE, Integer.MIN_VALUE + 1, -65536, -4096, -256, 256, 4097, 65536, 1 << 30, 1431655766,
        Integer.MAX_VALUE - 1, Integer.MAX_VALUE,
    };

    private interface With {
        void call(TubeWatch x, int value);
    }

    public static void main(String[] args) {
        buildArguments();
        peopleArguments();
        windArguments();
        fireArguments();
        failArguments();
        failDetectorArguments();
        actArguments();
        commandArguments();
        stepArguments();
        segmentArguments();
        fanArguments();
        doneArguments();
        personArguments();
        countArguments();
        Check.end();
    }

    /** Least and most are taken by a new object; one less, one more and what is far off are refused ever. */
    private static void range(String name, Class<? extends RuntimeException> due, int least, int most, With with) {
        within(name, least, with);
        within(name, most, with);
        outside(name, due, least, most, with);
    }

    private static void within(String name, int value, With with) {
        Class<?> thrown = Check.classThrownBy(() -> with.call(new TubeWatch(), value));
        Check.due(name + " of " + value + " throws " + thrown, thrown == null, true);
    }

    private static void outside(String name, Class<? extends RuntimeException> due, int least, int most, With with) {
        Twin.refusedEver(name + " of " + (least - 1), due, x -> with.call(x, least - 1));
        Twin.refusedEver(name + " of " + (most + 1), due, x -> with.call(x, most + 1));
        for (int far : FAR) {
            if (far < least || far > most) {
                Twin.refusedEver(name + " of " + far, due, x -> with.call(x, far));
            }
        }
    }

    // ---- promise 2: "a set of segments, 0 to 4095", "the segments 0 to 11"

    private static void buildArguments() {
        range("build doors", ARGUMENT, 0, 4095, (x, value) -> x.build(value, 6));
        range("build segment", INDEX, 0, 11, (x, value) -> x.build(7, value));
        TubeWatch least = new TubeWatch();
        least.build(4095, 0);
        least.build(0, 11);
        TubeWatch most = new TubeWatch();
        most.build(0, 11);
        most.build(4095, 0);
        for (int i = 0; i < 12; i++) {
            Check.due("build(0) at " + i, least.segment(i, 4), TubeWatch.NONE);
            Check.due("build(4095) at " + i, most.segment(i, 4), 0);
        }
        damperAt(0, 15);
        damperAt(11, 15);
    }

    /** A fire of 200 in a calm: the step behind the alarm has 47 of smoke, of which a third is drawn off. */
    private static void damperAt(int segment, int due) {
        TubeWatch x = Scene.calmFire(segment, 200);
        x.build(0, segment);
        x.act(TubeWatch.DAMPER, 0, false);
        x.step(8);
        int before = Scene.allSmoke(x) - x.segment(segment, 0);
        x.step(1);
        int backed = 5;
        Check.due("damper in " + segment, Scene.allSmoke(x) - x.segment(segment, 0) - before, backed + due);
    }

    // ---- promise 3: "1 to 30"

    private static void peopleArguments() {
        range("people segment", INDEX, 0, 11, (x, value) -> x.people(value, 1));
        range("people many", ARGUMENT, 1, 30, (x, value) -> x.people(4, value));
        Check.due("people(0, 1)", new TubeWatch().people(0, 1), 1);
        Check.due("people(11, 30)", new TubeWatch().people(11, 30), 30);
        TubeWatch x = new TubeWatch();
        x.people(0, 1);
        x.people(11, 2);
        Check.due("persons of the first segment", x.segment(0, 3), 1);
        Check.due("persons of the last segment", x.segment(11, 3), 2);
    }

    // ---- promise 4: "-40 to 40"

    private static void windArguments() {
        range("wind", ARGUMENT, -40, 40, (x, value) -> x.wind(value));
        TubeWatch x = new TubeWatch();
        Check.due("wind(-40)", x.wind(-40), 0);
        Check.due("wind(40)", x.wind(40), -40);
        Check.due("wind(0)", x.wind(0), 40);
        Check.due("wind(1)", x.wind(1), 0);
    }

    // ---- promise 5: "1 to 200"

    private static void fireArguments() {
        range("fire segment", INDEX, 0, 11, (x, value) -> x.fire(value, 1));
        range("fire size", ARGUMENT, 1, 200, (x, value) -> x.fire(6, value));
        TubeWatch least = Scene.calmFire(0, 1);
        least.step(5);
        Check.due("smoke of a fire of 1 in 0", least.segment(0, 0), 5);
        TubeWatch most = Scene.calmFire(11, 200);
        most.step(40);
        int before = Scene.allSmoke(most);
        most.step(1);
        Check.due("power of a fire of 200 in 11", Scene.allSmoke(most) - before, 200);
    }

    // ---- promises 6 to 8

    private static void failArguments() {
        for (boolean told : new boolean[] {false, true}) {
            range("feed " + told, INDEX, 0, 1, (x, value) -> x.feed(value, told));
            range("failFan " + told, INDEX, 0, 2, (x, value) -> x.failFan(value, told));
            outside("failDoor " + told, INDEX, 0, 11, (x, value) -> x.failDoor(value, told));
            within("failDoor of a door there " + told, 0, (x, value) -> failBuiltDoor(x, value, told));
            within("failDoor of a door there " + told, 11, (x, value) -> failBuiltDoor(x, value, told));
        }
    }

    private static void failBuiltDoor(TubeWatch x, int segment, boolean fails) {
        x.build(1 << segment, 0);
        x.failDoor(segment, fails);
    }

    // ---- promise 9: "0 to 2"

    private static void failDetectorArguments() {
        for (boolean fails : new boolean[] {false, true}) {
            range("failDetector segment " + fails, INDEX, 0, 11, (x, value) -> x.failDetector(value, 1, fails));
            range("failDetector detector " + fails, INDEX, 0, 2, (x, value) -> x.failDetector(6, value, fails));
            for (int segment = 0; segment < 12; segment += 11) {
                int place = segment;
                Twin.refusedEver("failDetector(.., -1)", INDEX, x -> x.failDetector(place, -1, fails));
                Twin.refusedEver("failDetector(.., 3)", INDEX, x -> x.failDetector(place, 3, fails));
            }
        }
        Twin.refusedEver("failDetector(-1, 3)", INDEX, x -> x.failDetector(-1, 3, true));
        Twin.refusedEver("failDetector(12, -1)", INDEX, x -> x.failDetector(12, -1, true));
    }

    // ---- promise 10: "STOP to FOAM", "0 to 20"

    private static void actArguments() {
        for (boolean fails : new boolean[] {false, true}) {
            range("act kind " + fails, ARGUMENT, 0, 7, (x, value) -> x.act(value, 0, fails));
            range("act delay " + fails, ARGUMENT, 0, 20, (x, value) -> x.act(0, value, fails));
        }
        Check.due("act(STOP, 0)", new TubeWatch().act(TubeWatch.STOP, 0, false), 0);
        Check.due("act(FOAM, 20)", new TubeWatch().act(TubeWatch.FOAM, 20, true), 0);
    }

    // ---- promise 11: "-1 to 1"

    private static void commandArguments() {
        range("command fan", INDEX, 0, 2, (x, value) -> x.command(value, 1));
        range("command state", ARGUMENT, -1, 1, (x, value) -> x.command(1, value));
        for (int fan = 0; fan < 3; fan++) {
            TubeWatch x = new TubeWatch();
            Check.due("command(" + fan + ", -1)", x.command(fan, -1), 0);
            Check.due("command(" + fan + ", 1)", x.command(fan, 1), -1);
            Check.due("command(" + fan + ", 0)", x.command(fan, 0), 1);
            Check.due("command(" + fan + ", 0) again", x.command(fan, 0), 0);
        }
    }

    // ---- promise 12: "1 to 100"

    private static void stepArguments() {
        range("step", ARGUMENT, 1, 100, (x, value) -> x.step(value));
        TubeWatch x = new TubeWatch();
        Check.due("step(1)", x.step(1), 1);
        Check.due("step(100)", x.step(100), 101);
    }

    // ---- promise 13: "0 to 4"

    private static void segmentArguments() {
        range("segment", INDEX, 0, 11, (x, value) -> x.segment(value, 0));
        range("segment what", ARGUMENT, 0, 4, (x, value) -> x.segment(11, value));
        TubeWatch x = new TubeWatch();
        x.build(1 | 1 << 11, 5);
        for (int segment = 0; segment < 12; segment += 11) {
            Check.due("least of " + segment, x.segment(segment, 0), 0);
            Check.due("most of " + segment, x.segment(segment, 4), 0);
        }
    }

    // ---- promise 15

    private static void fanArguments() {
        range("fan", INDEX, 0, 2, (x, value) -> x.fan(value));
        TubeWatch x = new TubeWatch();
        for (int fan = 0; fan < 3; fan++) {
            x.command(fan, fan - 1);
        }
        x.step(1);
        for (int fan = 0; fan < 3; fan++) {
            Check.due("fan(" + fan + ")", x.fan(fan), fan - 1);
        }
    }

    // ---- promise 17: acts that are not in the chart; a full one has the numbers 0 to 9

    private static void doneArguments() {
        outside("done", INDEX, 0, 9, (x, value) -> x.done(value));
        Twin.refused("done(0) without acts", INDEX, Lives.EMPTY, x -> x.done(0));
        Twin.refused("done(5) with five acts", INDEX, Lives.READY, x -> x.done(5));
        Check.due("done(4) with five acts", Lives.ready().done(4), TubeWatch.NONE);
        Check.due("done(9) with ten acts", Lives.full().done(9), TubeWatch.NONE);
    }

    // ---- promise 18: persons who are not there; at most the numbers 0 to 29; "0 to 2"

    private static void personArguments() {
        outside("person", INDEX, 0, 29, (x, value) -> x.person(value, 0));
        Twin.refused("person(0) without persons", INDEX, Lives.EMPTY, x -> x.person(0, 0));
        Twin.refused("person(3) with three persons", INDEX, Lives.READY, x -> x.person(3, 0));
        Check.due("person(2) with three persons", Lives.ready().person(2, 1), 1);
        Check.due("person(29) with thirty persons", Lives.full().person(29, 1), 5);
        for (int kind : new int[] {Lives.READY, Lives.LATE, Lives.FULL}) {
            Twin.refused("person(0, -1)", ARGUMENT, kind, x -> x.person(0, -1));
            Twin.refused("person(2, 3)", ARGUMENT, kind, x -> x.person(2, 3));
            Twin.refused("person(2, MIN)", ARGUMENT, kind, x -> x.person(2, Integer.MIN_VALUE));
            Twin.refused("person(2, MAX)", ARGUMENT, kind, x -> x.person(2, Integer.MAX_VALUE));
        }
        TubeWatch x = Lives.ready();
        Check.due("person(2, 0)", x.person(2, 0), TubeWatch.SITS);
        Check.due("person(2, 2)", x.person(2, 2), TubeWatch.NONE);
    }

    // ---- promise 19: "SITS to HURT"

    private static void countArguments() {
        range("count", ARGUMENT, 0, 4, (x, value) -> x.count(value));
        Check.due("count(SITS) of thirty", Lives.full().count(TubeWatch.SITS), 30);
        Check.due("count(HURT) of thirty", Lives.full().count(TubeWatch.HURT), 0);
    }
}
