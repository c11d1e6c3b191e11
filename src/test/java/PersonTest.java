/** What promise 12 does to persons, as promises 18 and 19 tell it. */
public final class PersonTest {
    public static void main(String[] args) {
        toldOnesWalkFromTheThirdStepOn();
        smokeOfTenMakesReady();
        theLastMouthsAreNear();
        theNearerMouthIsTaken();
        aDoorGoesAheadOfAMouth();
        theLowerDoorIsTaken();
        doorsLetOutThoseWhoWalk();
        doorsThatFailAreNoWayOut();
        aNewDoorTurnsAWalker();
        thickSmokeSlowsWalkers();
        fortyIsThick();
        thickSmokeHoldsEvenAtADoor();
        hundredHurtsForGood();
        ninetyNineDoesNotHurt();
        oneWhoWalksIntoSmokeIsHurtLater();
        countTellsStates();
        Check.end();
    }

    /** All are told in step 7; the smoke is in the segments 10 and 9 alone. */
    private static TubeWatch told(int doors) {
        TubeWatch x = Scene.calmFire(10, 200);
        x.build(doors, 0);
        if (doors != 0) {
            x.act(TubeWatch.DOORS, 0, false);
        }
        x.act(TubeWatch.TELL, 0, false);
        return x;
    }

    private static void is(TubeWatch x, int person, int state, int segment, int end) {
        Check.due("state of " + person, x.person(person, 0), state);
        Check.due("segment of " + person, x.person(person, 1), segment);
        Check.due("end of " + person, x.person(person, 2), end);
    }

    private static void toldOnesWalkFromTheThirdStepOn() {
        TubeWatch x = told(0);
        x.people(3, 1);
        x.step(7);
        is(x, 0, TubeWatch.SITS, 3, TubeWatch.NONE);
        x.step(1);
        is(x, 0, TubeWatch.READY, 3, TubeWatch.NONE);
        x.step(2);
        is(x, 0, TubeWatch.READY, 3, TubeWatch.NONE);
        for (int segment = 2; segment >= 0; segment--) {
            x.step(1);
            is(x, 0, TubeWatch.WALKS, segment, TubeWatch.NONE);
            Check.due("persons of segment " + segment, x.segment(segment, 3), 1);
        }
        x.step(1);
        is(x, 0, TubeWatch.OUT, TubeWatch.NONE, 13);
        Check.due("none is left in segment 0", x.segment(0, 3), 0);
        x.people(1, 1);
        x.step(1);
        is(x, 1, TubeWatch.READY, 1, TubeWatch.NONE);
        x.step(4);
        is(x, 1, TubeWatch.OUT, TubeWatch.NONE, 18);
        is(x, 0, TubeWatch.OUT, TubeWatch.NONE, 13);
    }

    private static void smokeOfTenMakesReady() {
        TubeWatch x = Scene.calmFire(6, 2);
        x.people(6, 1);
        x.people(5, 1);
        x.step(6);
        is(x, 0, TubeWatch.SITS, 6, TubeWatch.NONE);
        x.step(1);
        is(x, 0, TubeWatch.READY, 6, TubeWatch.NONE);
        is(x, 1, TubeWatch.SITS, 5, TubeWatch.NONE);
        x.step(2);
        is(x, 0, TubeWatch.READY, 6, TubeWatch.NONE);
        x.step(1);
        is(x, 0, TubeWatch.WALKS, 7, TubeWatch.NONE);
        x.step(4);
        is(x, 0, TubeWatch.WALKS, 11, TubeWatch.NONE);
        x.step(1);
        is(x, 0, TubeWatch.OUT, TubeWatch.NONE, 14);
    }

    private static void theLastMouthsAreNear() {
        TubeWatch x = told(0);
        x.people(0, 1);
        x.people(11, 1);
        x.step(10);
        is(x, 0, TubeWatch.READY, 0, TubeWatch.NONE);
        is(x, 1, TubeWatch.READY, 11, TubeWatch.NONE);
        x.step(1);
        is(x, 0, TubeWatch.OUT, TubeWatch.NONE, 10);
        is(x, 1, TubeWatch.OUT, TubeWatch.NONE, 10);
    }

    private static void walksTo(int doors, int from, int to) {
        TubeWatch x = told(doors);
        x.people(from, 1);
        x.step(11);
        Check.due("with doors " + doors + " from " + from, x.person(0, 1), to);
    }

    private static void theNearerMouthIsTaken() {
        walksTo(0, 5, 4);
        walksTo(0, 6, 7);
        walksTo(0, 1, 0);
        walksTo(0, 8, 9);
    }

    private static void aDoorGoesAheadOfAMouth() {
        walksTo(1 << 7, 3, 4);
        walksTo(1 << 8, 3, 2);
        walksTo(1 << 4, 8, 7);
        walksTo(1 << 3, 8, 9);
        walksTo(1 << 0, 6, 5);
        walksTo(1 << 11, 5, 6);
        walksTo(1 << 11, 4, 3);
        walksTo(1 << 11, 6, 7);
        walksTo(1 << 1, 0, 1);
        walksTo(1 << 2, 0, TubeWatch.NONE);
    }

    private static void theLowerDoorIsTaken() {
        walksTo(1 << 2 | 1 << 6, 4, 3);
        walksTo(1 << 2 | 1 << 5, 4, 5);
        walksTo(1 << 3 | 1 << 6, 4, 3);
        walksTo(1 << 5 | 1 << 9, 7, 6);
    }

    private static void doorsLetOutThoseWhoWalk() {
        TubeWatch x = told(1 << 3);
        x.people(3, 1);
        x.people(4, 1);
        x.step(10);
        Check.due("the door is open", x.segment(3, 4), 1);
        is(x, 0, TubeWatch.READY, 3, TubeWatch.NONE);
        x.step(1);
        is(x, 0, TubeWatch.OUT, TubeWatch.NONE, 10);
        is(x, 1, TubeWatch.WALKS, 3, TubeWatch.NONE);
        x.step(1);
        is(x, 1, TubeWatch.OUT, TubeWatch.NONE, 11);
    }

    private static void doorsThatFailAreNoWayOut() {
        TubeWatch x = told(1 << 4 | 1 << 7);
        x.failDoor(4, true);
        x.people(4, 1);
        x.step(11);
        is(x, 0, TubeWatch.WALKS, 5, TubeWatch.NONE);
        TubeWatch late = told(1 << 4);
        late.people(4, 1);
        late.step(9);
        late.failDoor(4, true);
        late.step(2);
        is(late, 0, TubeWatch.OUT, TubeWatch.NONE, 10);
    }

    private static void aNewDoorTurnsAWalker() {
        TubeWatch x = Scene.calmFire(10, 200);
        x.build(1 << 5, 0);
        x.people(4, 1);
        x.act(TubeWatch.TELL, 0, false);
        x.act(TubeWatch.DOORS, 4, false);
        x.step(11);
        is(x, 0, TubeWatch.WALKS, 3, TubeWatch.NONE);
        x.step(1);
        is(x, 0, TubeWatch.WALKS, 4, TubeWatch.NONE);
        x.step(1);
        is(x, 0, TubeWatch.WALKS, 5, TubeWatch.NONE);
        x.step(1);
        is(x, 0, TubeWatch.OUT, TubeWatch.NONE, 13);
    }

    /** With a fire of 5 the smoke of its segment is 36 37 38 39 40 41 42 43 behind the steps 14 to 21. */
    private static void thickSmokeSlowsWalkers() {
        TubeWatch x = Scene.calmFire(6, 5);
        x.step(14);
        x.people(6, 1);
        x.step(2);
        x.people(6, 1);
        x.step(1);
        is(x, 0, TubeWatch.READY, 6, TubeWatch.NONE);
        x.step(1);
        is(x, 0, TubeWatch.WALKS, 7, TubeWatch.NONE);
        x.step(2);
        Check.due("thick smoke", x.segment(6, 0), 41);
        is(x, 1, TubeWatch.WALKS, 6, TubeWatch.NONE);
        x.step(1);
        is(x, 1, TubeWatch.WALKS, 7, TubeWatch.NONE);
    }

    /** As above, a step later: the smoke is 39 behind step 18 and 40 behind step 19. */
    private static void fortyIsThick() {
        TubeWatch x = Scene.calm();
        x.step(1);
        x.fire(6, 5);
        x.step(15);
        x.people(6, 1);
        x.step(4);
        Check.due("smoke of 40", x.segment(6, 0), 40);
        is(x, 0, TubeWatch.WALKS, 6, TubeWatch.NONE);
        x.step(1);
        is(x, 0, TubeWatch.WALKS, 7, TubeWatch.NONE);
        TubeWatch even = Scene.calmFire(6, 5);
        even.step(15);
        even.people(6, 1);
        even.step(4);
        is(even, 0, TubeWatch.WALKS, 7, TubeWatch.NONE);
        TubeWatch thin = Scene.calmFire(6, 5);
        thin.step(14);
        thin.people(6, 1);
        thin.step(4);
        Check.due("smoke of 39", thin.segment(6, 0), 39);
        is(thin, 0, TubeWatch.WALKS, 7, TubeWatch.NONE);
    }

    /** The persons who give the alarm in step 5 are gone when the others come. */
    private static void thickSmokeHoldsEvenAtADoor() {
        TubeWatch x = Scene.calmFire(6, 5);
        x.build(1 << 6, 0);
        x.people(6, 1);
        x.act(TubeWatch.DOORS, 0, false);
        x.step(16);
        Check.due("the door is open", x.segment(6, 4), 1);
        Check.due("the first one is out", x.person(0, 0), TubeWatch.OUT);
        x.people(6, 1);
        x.step(4);
        is(x, 1, TubeWatch.WALKS, 6, TubeWatch.NONE);
        x.step(1);
        is(x, 1, TubeWatch.OUT, TubeWatch.NONE, 20);
    }

    /** With a fire of 12 the smoke of its segment is 99 behind step 24 and 100 behind step 25. */
    private static void hundredHurtsForGood() {
        TubeWatch x = Scene.calmFire(6, 12);
        x.step(24);
        x.people(6, 2);
        x.people(0, 1);
        x.step(1);
        is(x, 0, TubeWatch.READY, 6, TubeWatch.NONE);
        x.people(6, 1);
        x.step(1);
        Check.due("smoke of 100", x.segment(6, 0), 100);
        is(x, 0, TubeWatch.HURT, 6, 25);
        is(x, 1, TubeWatch.HURT, 6, 25);
        is(x, 3, TubeWatch.HURT, 6, 25);
        is(x, 2, TubeWatch.SITS, 0, TubeWatch.NONE);
        x.wind(40);
        for (int i = 0; i < 3; i++) {
            x.command(i, 1);
        }
        x.step(30);
        Check.due("smoke blown away", x.segment(6, 0) < 40, true);
        is(x, 0, TubeWatch.HURT, 6, 25);
        Check.due("the hurt ones are in the tube", x.segment(6, 3), 3);
    }

    private static void ninetyNineDoesNotHurt() {
        TubeWatch x = Scene.calmFire(6, 11);
        x.step(60);
        x.people(6, 1);
        x.step(1);
        Check.due("smoke of 99", x.segment(6, 0), 99);
        is(x, 0, TubeWatch.READY, 6, TubeWatch.NONE);
    }

    /** One goes from 7, through the fire's segment with smoke, towards a door in 5. */
    private static void oneWhoWalksIntoSmokeIsHurtLater() {
        TubeWatch x = Scene.calmFire(6, 200);
        x.build(1 << 5, 0);
        x.people(7, 1);
        x.act(TubeWatch.DOORS, 0, false);
        x.act(TubeWatch.TELL, 2, false);
        x.step(12);
        is(x, 0, TubeWatch.READY, 7, TubeWatch.NONE);
        x.step(1);
        Check.due("smoke in the way", x.segment(6, 0) >= 100, true);
        is(x, 0, TubeWatch.WALKS, 6, TubeWatch.NONE);
        x.step(1);
        is(x, 0, TubeWatch.HURT, 6, 13);
    }

    private static void countTellsStates() {
        TubeWatch x = told(0);
        x.people(11, 4);
        x.people(5, 3);
        x.people(2, 2);
        counts(x, 9, 0, 0, 0, 0);
        x.step(8);
        counts(x, 0, 9, 0, 0, 0);
        x.people(1, 1);
        counts(x, 1, 9, 0, 0, 0);
        x.step(3);
        counts(x, 0, 1, 5, 4, 0);
        x.step(1);
        x.people(10, 5);
        x.step(1);
        counts(x, 0, 0, 3, 7, 5);
        Check.due("persons balance", x.balances(), true);
    }

    private static void counts(TubeWatch x, int... due) {
        for (int state = 0; state < due.length; state++) {
            Check.due("count(" + state + ")", x.count(state), due[state]);
        }
    }
}
