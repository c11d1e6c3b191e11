/** Calls that the state of the object refuses, which exception comes first, and what is empty or full. */
public final class EdgeStateTest {
    private static final Class<IndexOutOfBoundsException> INDEX = IndexOutOfBoundsException.class;
    private static final Class<IllegalArgumentException> ARGUMENT = IllegalArgumentException.class;
    private static final Class<IllegalStateException> STATE = IllegalStateException.class;

    public static void main(String[] args) {
        livesAreAsTheyAreNamed();
        buildIsRefusedBehindAStep();
        buildIsTakenWithoutAStep();
        buildTellsTheFirstException();
        peopleAreRefusedBeyondThirty();
        thoseWhoAreOutTakeRoom();
        peopleTellTheFirstException();
        fireIsRefusedBesideAFire();
        fireTellsTheFirstException();
        failDoorWantsADoor();
        actIsRefusedBeyondTen();
        actIsRefusedFromTheAlarmOn();
        actTellsTheFirstException();
        otherCallsTellTheFirstException();
        anEmptyTubeStaysEmpty();
        actsOnNothingDoNothing();
        Check.end();
    }

    private static void livesAreAsTheyAreNamed() {
        Check.due("the late one has its alarm", Lives.late().alarm() != TubeWatch.NONE, true);
        Check.due("the late one has an act done", Lives.late().done(0) != TubeWatch.NONE, true);
        Check.due("the late one has acts to do", Lives.late().done(4), TubeWatch.NONE);
        Check.due("the ready one has no alarm", Lives.ready().alarm(), TubeWatch.NONE);
    }

    // ---- promise 2: "IllegalStateException if a step was done"

    private static void buildIsRefusedBehindAStep() {
        Twin.refused("build(0, 0)", STATE, Lives.LATE, x -> x.build(0, 0));
        Twin.refused("build(4095, 11)", STATE, Lives.LATE, x -> x.build(4095, 11));
        TubeWatch one = new TubeWatch();
        one.build(1, 0);
        one.step(1);
        Check.noState("build behind one step", () -> one.build(2, 0));
        Check.due("the old door is there", one.segment(0, 4), 0);
        Check.due("no new door is there", one.segment(1, 4), TubeWatch.NONE);
    }

    private static void buildIsTakenWithoutAStep() {
        TubeWatch x = Lives.ready();
        Check.noArgument("step(0)", () -> x.step(0));
        Check.noArgument("step(101)", () -> x.step(101));
        x.build(2, 3);
        Check.due("a new door", x.segment(1, 4), 0);
        Check.due("an old door", x.segment(0, 4), TubeWatch.NONE);
    }

    private static void buildTellsTheFirstException() {
        for (int kind = 0; kind < Lives.NAMES.length; kind++) {
            Twin.refused("build(4096, 12)", INDEX, kind, x -> x.build(4096, 12));
            Twin.refused("build(-1, -1)", INDEX, kind, x -> x.build(-1, -1));
        }
        Twin.refused("build(0, 12) late", INDEX, Lives.LATE, x -> x.build(0, 12));
        Twin.refused("build(4096, 11) late", ARGUMENT, Lives.LATE, x -> x.build(4096, 11));
    }

    // ---- promise 3: "IllegalStateException if there would be more than 30"

    private static void peopleAreRefusedBeyondThirty() {
        for (int first : new int[] {1, 15, 29}) {
            TubeWatch x = new TubeWatch();
            x.people(2, first);
            Check.noState("one too many behind " + first, () -> x.people(3, 31 - first));
            Check.due("none came", x.segment(3, 3), 0);
            Check.noIndex("no person came", () -> x.person(first, 0));
            Check.due("as many as there is room", x.people(3, 30 - first), 30);
        }
        Twin.refused("people(11, 1)", STATE, Lives.FULL, x -> x.people(11, 1));
        Twin.refused("people(0, 30)", STATE, Lives.FULL, x -> x.people(0, 30));
        Twin.refused("people(0, 28) to three", STATE, Lives.READY, x -> x.people(0, 28));
        Check.due("people(0, 27) to three", Lives.ready().people(0, 27), 30);
    }

    /** "Persons are numbered from 0, at most 30": those who are out keep their numbers. */
    private static void thoseWhoAreOutTakeRoom() {
        TubeWatch x = Scene.calmFire(6, 200);
        x.people(0, 30);
        x.act(TubeWatch.TELL, 0, false);
        x.step(20);
        Check.due("all are out", x.count(TubeWatch.OUT), 30);
        Check.noState("people(0, 1) with all out", () -> x.people(0, 1));
    }

    private static void peopleTellTheFirstException() {
        for (int kind = 0; kind < Lives.NAMES.length; kind++) {
            Twin.refused("people(12, 0)", INDEX, kind, x -> x.people(12, 0));
            Twin.refused("people(-1, 31)", INDEX, kind, x -> x.people(-1, 31));
        }
        Twin.refused("people(12, 1) full", INDEX, Lives.FULL, x -> x.people(12, 1));
        Twin.refused("people(0, 31) full", ARGUMENT, Lives.FULL, x -> x.people(0, 31));
        Twin.refused("people(0, 0) full", ARGUMENT, Lives.FULL, x -> x.people(0, 0));
    }

    // ---- promise 5: "IllegalStateException if there is one"

    private static void fireIsRefusedBesideAFire() {
        for (int kind : new int[] {Lives.READY, Lives.LATE, Lives.FULL}) {
            Twin.refused("fire(0, 200)", STATE, kind, x -> x.fire(0, 200));
            Twin.refused("fire(6, 90)", STATE, kind, x -> x.fire(6, 90));
            Twin.refused("fire(11, 1)", STATE, kind, x -> x.fire(11, 1));
        }
        TubeWatch x = Scene.calmFire(6, 1);
        x.step(100);
        Check.noState("a fire that is old is there still", () -> x.fire(6, 1));
    }

    private static void fireTellsTheFirstException() {
        for (int kind = 0; kind < Lives.NAMES.length; kind++) {
            Twin.refused("fire(12, 0)", INDEX, kind, x -> x.fire(12, 0));
            Twin.refused("fire(-1, 201)", INDEX, kind, x -> x.fire(-1, 201));
        }
        Twin.refused("fire(12, 1) beside one", INDEX, Lives.READY, x -> x.fire(12, 1));
        Twin.refused("fire(6, 201) beside one", ARGUMENT, Lives.READY, x -> x.fire(6, 201));
        Twin.refused("fire(6, 0) beside one", ARGUMENT, Lives.LATE, x -> x.fire(6, 0));
    }

    // ---- promise 8: "if there is no such segment, or no door in it"

    private static void failDoorWantsADoor() {
        for (int segment = 0; segment < 12; segment++) {
            int place = segment;
            Twin.refused("failDoor without doors", INDEX, Lives.EMPTY, x -> x.failDoor(place, true));
            if (segment == 0 || segment == 2 || segment == 5) {
                Check.due("failDoor(" + place + ")", Lives.ready().failDoor(place, true), false);
            } else {
                Twin.refused("failDoor beside a door", INDEX, Lives.READY, x -> x.failDoor(place, true));
                Twin.refused("failDoor beside a door", INDEX, Lives.LATE, x -> x.failDoor(place, false));
            }
            Check.due("failDoor with all doors", Lives.full().failDoor(place, false), false);
        }
        TubeWatch x = Lives.ready();
        x.build(2, 0);
        Check.noIndex("failDoor of a door that was there", () -> x.failDoor(0, true));
    }

    // ---- promise 10: "IllegalStateException if there are 10, or the alarm was given"

    private static void actIsRefusedBeyondTen() {
        TubeWatch x = new TubeWatch();
        for (int i = 0; i < 10; i++) {
            Check.due("act " + i, x.act(TubeWatch.TELL, 20, true), i);
        }
        Check.noState("act 10", () -> x.act(TubeWatch.STOP, 0, false));
        Check.due("the tenth act is there", x.done(9), TubeWatch.NONE);
        Twin.refused("act(STOP, 0)", STATE, Lives.FULL, y -> y.act(TubeWatch.STOP, 0, false));
        Twin.refused("act(FOAM, 20)", STATE, Lives.FULL, y -> y.act(TubeWatch.FOAM, 20, true));
    }

    /** The alarm of this scene is given in step 7: behind seven steps there is none yet. */
    private static void actIsRefusedFromTheAlarmOn() {
        Twin.refused("act(STOP, 0)", STATE, Lives.LATE, y -> y.act(TubeWatch.STOP, 0, false));
        Twin.refused("act(FOAM, 20)", STATE, Lives.LATE, y -> y.act(TubeWatch.FOAM, 20, true));
        TubeWatch x = Scene.calmFire(6, 200);
        x.step(Scene.ALARM_STEP);
        Check.due("an act ahead of the alarm", x.act(TubeWatch.TELL, 0, false), 0);
        x.step(1);
        Check.due("it is done in the step of the alarm", x.done(0), Scene.ALARM_STEP);
        Check.noState("an act behind the alarm", () -> x.act(TubeWatch.TELL, 0, false));
        Check.noIndex("it is not there", () -> x.done(1));
        x.step(100);
        Check.noState("an act behind the chart", () -> x.act(TubeWatch.TELL, 0, false));
        TubeWatch none = Scene.calmFire(6, 200);
        none.step(Scene.ALARM_STEP + 1);
        Check.noState("a first act behind the alarm", () -> none.act(TubeWatch.TELL, 0, false));
    }

    private static void actTellsTheFirstException() {
        for (int kind : new int[] {Lives.LATE, Lives.FULL}) {
            Twin.refused("act(8, 0)", ARGUMENT, kind, x -> x.act(8, 0, false));
            Twin.refused("act(-1, 0)", ARGUMENT, kind, x -> x.act(-1, 0, false));
            Twin.refused("act(0, 21)", ARGUMENT, kind, x -> x.act(0, 21, false));
            Twin.refused("act(7, -1)", ARGUMENT, kind, x -> x.act(7, -1, true));
        }
    }

    // ---- promises 11, 13 and 18: the index ahead of the argument

    private static void otherCallsTellTheFirstException() {
        Twin.refusedEver("command(3, 2)", INDEX, x -> x.command(3, 2));
        Twin.refusedEver("command(-1, -2)", INDEX, x -> x.command(-1, -2));
        Twin.refusedEver("segment(12, 5)", INDEX, x -> x.segment(12, 5));
        Twin.refusedEver("segment(-1, -1)", INDEX, x -> x.segment(-1, -1));
        Twin.refusedEver("person(30, 3)", INDEX, x -> x.person(30, 3));
        Twin.refusedEver("person(-1, -1)", INDEX, x -> x.person(-1, -1));
        Twin.refused("person(0, 3) without persons", INDEX, Lives.EMPTY, x -> x.person(0, 3));
        Twin.refused("person(3, 3) with three", INDEX, Lives.READY, x -> x.person(3, 3));
    }

    // ---- empty

    private static void anEmptyTubeStaysEmpty() {
        TubeWatch x = new TubeWatch();
        Check.due("steps in an empty tube", x.step(100), 100);
        for (int i = 0; i < 12; i++) {
            for (int what = 0; what < 4; what++) {
                Check.due("empty segment(" + i + ", " + what + ")", x.segment(i, what), 0);
            }
            Check.due("no door", x.segment(i, 4), TubeWatch.NONE);
        }
        for (int state = TubeWatch.SITS; state <= TubeWatch.HURT; state++) {
            Check.due("nobody", x.count(state), 0);
        }
        Check.due("no alarm", x.alarm(), TubeWatch.NONE);
        Check.due("nothing gone", x.gone(), 0);
        Check.due("nothing balances", x.balances(), true);
    }

    /** All acts without a door and without a person; those who come later are told all the same. */
    private static void actsOnNothingDoNothing() {
        TubeWatch x = Scene.calmFire(6, 200);
        x.act(TubeWatch.DOORS, 0, false);
        x.act(TubeWatch.TELL, 0, false);
        x.step(10);
        for (int i = 0; i < 12; i++) {
            Check.due("no door opens", x.segment(i, 4), TubeWatch.NONE);
        }
        Check.due("DOORS is done", x.done(0), Scene.ALARM_STEP);
        Check.due("TELL is done", x.done(1), Scene.ALARM_STEP);
        x.people(0, 1);
        x.step(1);
        Check.due("one who comes is told", x.person(0, 0), TubeWatch.READY);
    }
}
