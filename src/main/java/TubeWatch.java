/**
 * A tube under a mountain with smoke, heat, fans, a fire, detectors, a chart of acts and persons.
 * What each call promises stands in the document; this file only keeps it.
 */
public final class TubeWatch {
    public static final int NONE = -1;
    public static final int STOP = 0, TELL = 1, DOORS = 2, LEFT = 3, RIGHT = 4, OFF = 5, DAMPER = 6, FOAM = 7;
    public static final int SITS = 0, READY = 1, WALKS = 2, OUT = 3, HURT = 4;

    private static final int SEGMENTS = 12;
    private static final int FANS = 3;
    private static final int FEEDS = 2;
    private static final int DETECTORS = 3;
    private static final int MOST_PERSONS = 30;
    private static final int MOST_ACTS = 10;
    private static final int MOST_DOORS = 4095;
    private static final int MOST_WIND = 40;
    private static final int MOST_SIZE = 200;
    private static final int MOST_DELAY = 20;
    private static final int MOST_STEPS = 100;
    private static final int FIRST_DAMPER = 6;

    private final Fans fans = new Fans();
    private final Stream stream = new Stream();
    private final Air air = new Air();
    private final Blaze blaze = new Blaze();
    private final Doors doors = new Doors();
    private final Chart chart = new Chart();
    private final Crowd crowd = new Crowd();
    private final boolean[] downFeeds = new boolean[FEEDS];
    private final boolean[] failingDetectors = new boolean[SEGMENTS * DETECTORS];
    private int damperSegment = FIRST_DAMPER;
    private boolean isDamperOpen = false;
    private boolean isTold = false;
    private int alarmSegment = NONE;
    private int stepsDone = 0;

    public TubeWatch() {
    }

    // ---- what there is

    public void build(int doors, int segment)
            throws IndexOutOfBoundsException, IllegalArgumentException, IllegalStateException {
        requireSegment(segment);
        requireRange(doors, 0, MOST_DOORS);
        requireState(stepsDone == 0);
        this.doors.place(doors);
        damperSegment = segment;
        isDamperOpen = false;
    }

    public int people(int segment, int many)
            throws IndexOutOfBoundsException, IllegalArgumentException, IllegalStateException {
        requireSegment(segment);
        requireRange(many, 1, MOST_PERSONS);
        requireState(crowd.hasRoomFor(many));
        crowd.seat(segment, many);
        return crowd.size();
    }

    public int wind(int wind) throws IllegalArgumentException {
        requireRange(wind, -MOST_WIND, MOST_WIND);
        return stream.blow(wind);
    }

    public void fire(int segment, int size)
            throws IndexOutOfBoundsException, IllegalArgumentException, IllegalStateException {
        requireSegment(segment);
        requireRange(size, 1, MOST_SIZE);
        requireState(!blaze.isBurning());
        blaze.begin(segment, size);
    }

    // ---- what fails

    public boolean feed(int feed, boolean isUp) throws IndexOutOfBoundsException {
        requireIndex(feed, FEEDS);
        downFeeds[feed] = !isUp;
        return hasPower();
    }

    public int failFan(int fan, boolean fails) throws IndexOutOfBoundsException {
        requireIndex(fan, FANS);
        fans.setFailing(fan, fails);
        return fans.stateOf(fan);
    }

    public boolean failDoor(int segment, boolean fails) throws IndexOutOfBoundsException {
        requireDoor(segment);
        doors.setFailing(segment, fails);
        return doors.isOpen(segment);
    }

    public void failDetector(int segment, int detector, boolean fails) throws IndexOutOfBoundsException {
        requireSegment(segment);
        requireIndex(detector, DETECTORS);
        failingDetectors[segment * DETECTORS + detector] = fails;
    }

    // ---- the chart

    public int act(int kind, int delay, boolean fails) throws IllegalArgumentException, IllegalStateException {
        requireRange(kind, STOP, FOAM);
        requireRange(delay, 0, MOST_DELAY);
        requireState(alarmSegment == NONE && chart.hasRoom());
        return chart.put(kind, delay, fails);
    }

    public int command(int fan, int state) throws IndexOutOfBoundsException, IllegalArgumentException {
        requireIndex(fan, FANS);
        requireRange(state, -1, 1);
        return fans.order(fan, state);
    }

    public int step(int steps) throws IllegalArgumentException {
        requireRange(steps, 1, MOST_STEPS);
        for (int i = 0; i < steps; i++) {
            doStep();
        }
        return stepsDone;
    }

    // ---- what is asked

    public int segment(int segment, int what) throws IndexOutOfBoundsException, IllegalArgumentException {
        requireSegment(segment);
        requireRange(what, 0, 4);
        switch (what) {
            case 0:
                return air.smokeIn(segment);
            case 1:
                return air.heatIn(segment);
            case 2:
                return tellingIn(segment);
            case 3:
                return crowd.insideOf(segment);
            default:
                return doorAnswer(segment);
        }
    }

    public int flow() {
        return (int) (100.0 * stream.speed());
    }

    public int fan(int fan) throws IndexOutOfBoundsException {
        requireIndex(fan, FANS);
        return fans.stateOf(fan);
    }

    public int alarm() {
        return alarmSegment;
    }

    public int done(int act) throws IndexOutOfBoundsException {
        requireIndex(act, chart.size());
        return chart.stepOf(act);
    }

    public int person(int person, int what) throws IndexOutOfBoundsException, IllegalArgumentException {
        requireIndex(person, crowd.size());
        requireRange(what, 0, 2);
        switch (what) {
            case 0:
                return crowd.stateOf(person);
            case 1:
                return crowd.segmentOf(person);
            default:
                return crowd.endOf(person);
        }
    }

    public int count(int state) throws IllegalArgumentException {
        requireRange(state, SITS, HURT);
        return crowd.howMany(state);
    }

    public int gone() {
        return air.lost();
    }

    public boolean balances() {
        int persons = 0;
        for (int state = SITS; state <= HURT; state++) {
            persons += crowd.howMany(state);
        }
        return persons == crowd.size() && air.allSmoke() + air.lost() == blaze.allMade();
    }

    // ---- a step

    private void doStep() {
        fans.turn(hasPower());
        stream.become(fans.push());
        burn();
        moveAir();
        watch();
        followChart();
        crowd.live(stepsDone, isTold, air, doors);
        stepsDone++;
    }

    private void burn() {
        if (blaze.isBurning()) {
            air.feedFrom(blaze.place(), blaze.burn(hasPower()));
        }
    }

    private void moveAir() {
        air.drift(stream.speed());
        if (blaze.isBurning()) {
            air.backUp(blaze.place(), stream.speed());
        }
        if (isDamperOpen) {
            air.drawOff(damperSegment);
        }
        air.cool();
    }

    private void watch() {
        for (int i = 0; i < SEGMENTS && alarmSegment == NONE; i++) {
            if (tellingIn(i) >= 2) {
                alarmSegment = i;
                chart.start(stepsDone);
            }
        }
    }

    private void followChart() {
        for (int i = 0; i < MOST_ACTS && alarmSegment != NONE && chart.isDue(stepsDone); i++) {
            perform(chart.finishNext(stepsDone));
        }
    }

    private void perform(int kind) {
        switch (kind) {
            case STOP:
                stream.stopTraffic();
                break;
            case TELL:
                isTold = true;
                break;
            case DOORS:
                doors.openAll();
                break;
            case LEFT:
                fans.orderAll(-1);
                break;
            case RIGHT:
                fans.orderAll(1);
                break;
            case OFF:
                fans.orderAll(0);
                break;
            case DAMPER:
                isDamperOpen = true;
                break;
            case FOAM:
                blaze.turnFoamOn();
                break;
            default:
                break;
        }
    }

    // ---- helpers of the calls

    private boolean hasPower() {
        for (int i = 0; i < downFeeds.length; i++) {
            if (!downFeeds[i]) {
                return true;
            }
        }
        return false;
    }

    private int tellingIn(int segment) {
        int smoke = air.smokeIn(segment);
        int telling = 0;
        if (air.heatIn(segment) >= 20 && detectorWorks(segment, 0)) {
            telling++;
        }
        if (smoke >= 15 && detectorWorks(segment, 1)) {
            telling++;
        }
        if (smoke >= 10 && detectorWorks(segment, 2) && crowd.insideOf(segment) > 0) {
            telling++;
        }
        return telling;
    }

    private boolean detectorWorks(int segment, int detector) {
        int index = segment * DETECTORS + detector;
        return index >= 0 && index < failingDetectors.length && !failingDetectors[index];
    }

    private int doorAnswer(int segment) {
        if (!doors.isThere(segment)) {
            return NONE;
        }
        return doors.isOpen(segment) ? 1 : 0;
    }

    private void requireDoor(int segment) {
        if (!doors.isThere(segment)) {
            throw new IndexOutOfBoundsException("there is no such segment or no door in it");
        }
    }

    private static void requireSegment(int segment) {
        requireIndex(segment, SEGMENTS);
    }

    private static void requireIndex(int index, int size) {
        if (index < 0 || index >= size) {
            throw new IndexOutOfBoundsException("there is no such thing");
        }
    }

    private static void requireRange(int value, int least, int most) {
        if (value < least || value > most) {
            throw new IllegalArgumentException("an argument is out of its range");
        }
    }

    private static void requireState(boolean holds) {
        if (!holds) {
            throw new IllegalStateException("the call does not fit what was done");
        }
    }

    private static boolean isSegment(int place) {
        return place >= 0 && place < SEGMENTS;
    }

    /** The three fans: what each is commanded, how each turns, which of them fail. */
    private static final class Fans {
        private final int[] orders = new int[FANS];
        private final int[] states = new int[FANS];
        private final boolean[] failing = new boolean[FANS];

        void turn(boolean hasPower) {
            for (int i = 0; i < FANS; i++) {
                if (!failing[i]) {
                    states[i] = oneNearer(states[i], hasPower ? orders[i] : 0);
                }
            }
        }

        private static int oneNearer(int from, int to) {
            return from + Integer.compare(to, from);
        }

        int push() {
            int sum = 0;
            for (int i = 0; i < FANS; i++) {
                sum += states[i];
            }
            return sum;
        }

        int order(int index, int state) {
            if (!isFan(index)) {
                return 0;
            }
            int before = orders[index];
            orders[index] = state;
            return before;
        }

        void orderAll(int state) {
            for (int i = 0; i < FANS; i++) {
                orders[i] = state;
            }
        }

        int stateOf(int index) {
            return isFan(index) ? states[index] : 0;
        }

        void setFailing(int index, boolean fails) {
            if (isFan(index)) {
                failing[index] = fails;
            }
        }

        private static boolean isFan(int index) {
            return index >= 0 && index < FANS;
        }
    }

    /** The flow and what drives it beside the fans. */
    private static final class Stream {
        private static final int MOST_AIM = 90;
        private double speed = 0.0;
        private int breeze = 0;
        private boolean isTrafficStopped = false;

        void become(int push) {
            double aim = 15.0 * push + breeze + (isTrafficStopped ? 0.0 : 5.0);
            speed = speed + (held(aim) - speed) / 4.0;
        }

        private static double held(double aim) {
            if (aim > MOST_AIM) {
                return MOST_AIM;
            }
            return aim < -MOST_AIM ? -MOST_AIM : aim;
        }

        int blow(int fresh) {
            int before = breeze;
            breeze = fresh;
            return before;
        }

        void stopTraffic() {
            isTrafficStopped = true;
        }

        double speed() {
            return speed;
        }
    }

    /** The fire and the foam against it. */
    private static final class Blaze {
        private int site = NONE;
        private int size = 0;
        // Its square does not fit an int behind some 46,000 steps.
        private long age = 0;
        private int water = 30;
        private boolean isFoamOn = false;
        private int made = 0;

        boolean isBurning() {
            return site != NONE;
        }

        void begin(int place, int most) {
            site = place;
            size = most;
        }

        void turnFoamOn() {
            isFoamOn = true;
        }

        int burn(boolean hasPower) {
            int power = (int) Math.min(size, 1 + age * age / 4);
            if (isFoamOn && hasPower && water > 0) {
                water--;
                power = power / 2;
            }
            age++;
            made += power;
            return power;
        }

        int place() {
            return site;
        }

        int allMade() {
            return made;
        }
    }

    /**
     * Smoke and heat of all segments, and the smoke that is gone. In 512 calls a fire makes less
     * than 10.3 million of smoke, so that 90 times it still fits an int.
     */
    private static final class Air {
        private static final int WEAK = 30;
        private final int[] smoke = new int[SEGMENTS];
        private final int[] heat = new int[SEGMENTS];
        private final int[] leaving = new int[SEGMENTS];
        private int lost = 0;

        void feedFrom(int segment, int power) {
            if (isSegment(segment)) {
                smoke[segment] += power;
                heat[segment] += power;
            }
        }

        void drift(double speed) {
            int share = (int) withoutSign(speed);
            for (int i = 0; i < SEGMENTS; i++) {
                leaving[i] = smoke[i] * share / 100;
            }
            for (int i = 0; i < SEGMENTS; i++) {
                shift(i, i + side(speed), leaving[i]);
            }
        }

        void backUp(int segment, double speed) {
            if (withoutSign(speed) < WEAK) {
                shift(segment, segment - side(speed), smokeIn(segment) / 10);
            }
        }

        void drawOff(int segment) {
            shift(segment, NONE, smokeIn(segment) / 3);
        }

        void cool() {
            for (int i = 0; i < SEGMENTS; i++) {
                heat[i] -= (heat[i] + 3) / 4;
            }
        }

        private void shift(int from, int to, int much) {
            if (!isSegment(from)) {
                return;
            }
            smoke[from] -= much;
            if (isSegment(to)) {
                smoke[to] += much;
            } else {
                lost += much;
            }
        }

        private static double withoutSign(double speed) {
            return speed < 0.0 ? -speed : speed;
        }

        private static int side(double speed) {
            return speed < 0.0 ? -1 : 1;
        }

        int smokeIn(int segment) {
            return isSegment(segment) ? smoke[segment] : 0;
        }

        int heatIn(int segment) {
            return isSegment(segment) ? heat[segment] : 0;
        }

        int allSmoke() {
            int sum = 0;
            for (int i = 0; i < SEGMENTS; i++) {
                sum += smoke[i];
            }
            return sum;
        }

        int lost() {
            return lost;
        }
    }

    /** The doors: where they are, which are open, which fail. */
    private static final class Doors {
        private final boolean[] there = new boolean[SEGMENTS];
        private final boolean[] open = new boolean[SEGMENTS];
        private final boolean[] failing = new boolean[SEGMENTS];

        void place(int set) {
            for (int i = 0; i < SEGMENTS; i++) {
                there[i] = (set >> i & 1) == 1;
                open[i] = false;
                failing[i] = false;
            }
        }

        void openAll() {
            for (int i = 0; i < SEGMENTS; i++) {
                if (there[i] && !failing[i]) {
                    open[i] = true;
                }
            }
        }

        void setFailing(int segment, boolean fails) {
            if (isSegment(segment)) {
                failing[segment] = fails;
            }
        }

        /** Where the nearest way out is; a mouth is the place next to the last segment on its side. */
        int nearestWay(int from) {
            int nearest = NONE;
            int away = SEGMENTS + 1;
            for (int i = 0; i < SEGMENTS; i++) {
                int distance = Math.abs(i - from);
                if (open[i] && distance < away) {
                    nearest = i;
                    away = distance;
                }
            }
            if (from + 1 < away) {
                nearest = -1;
                away = from + 1;
            }
            return SEGMENTS - from < away ? SEGMENTS : nearest;
        }

        boolean isThere(int segment) {
            return isSegment(segment) && there[segment];
        }

        boolean isOpen(int segment) {
            return isSegment(segment) && open[segment];
        }
    }

    /** The acts in their order; those ahead of next are done. */
    private static final class Chart {
        private final int[] kinds = new int[MOST_ACTS];
        private final int[] waits = new int[MOST_ACTS];
        private final int[] steps = new int[MOST_ACTS];
        private int size = 0;
        private int next = 0;
        private int since = 0;

        boolean hasRoom() {
            return size < MOST_ACTS;
        }

        int put(int kind, int delay, boolean fails) {
            if (!hasRoom()) {
                return NONE;
            }
            kinds[size] = kind;
            waits[size] = fails ? 2 * delay + 3 : delay;
            steps[size] = NONE;
            size++;
            return size - 1;
        }

        void start(int now) {
            since = now;
        }

        boolean isDue(int now) {
            return isAct(next) && now - since >= waits[next];
        }

        int finishNext(int now) {
            if (!isAct(next)) {
                return NONE;
            }
            int kind = kinds[next];
            steps[next] = now;
            since = now;
            next++;
            return kind;
        }

        int stepOf(int index) {
            return isAct(index) ? steps[index] : NONE;
        }

        private boolean isAct(int index) {
            return index >= 0 && index < size && index < MOST_ACTS;
        }

        int size() {
            return size;
        }
    }

    /** The persons, each with a state, a place, and the steps of getting ready and of the end. */
    private static final class Crowd {
        private final int[] states = new int[MOST_PERSONS];
        private final int[] places = new int[MOST_PERSONS];
        private final int[] readySteps = new int[MOST_PERSONS];
        private final int[] endSteps = new int[MOST_PERSONS];
        private int size = 0;

        boolean hasRoomFor(int many) {
            return many <= MOST_PERSONS - size;
        }

        void seat(int segment, int many) {
            for (int i = 0; i < many && size < MOST_PERSONS; i++) {
                states[size] = SITS;
                places[size] = segment;
                endSteps[size] = NONE;
                size++;
            }
        }

        void live(int now, boolean isTold, Air air, Doors doors) {
            for (int i = 0; i < size && i < MOST_PERSONS; i++) {
                if (states[i] != OUT && states[i] != HURT) {
                    liveOne(i, now, isTold, air.smokeIn(places[i]), doors);
                }
            }
        }

        private void liveOne(int index, int now, boolean isTold, int smoke, Doors doors) {
            if (!isPerson(index)) {
                return;
            }
            if (smoke >= 100) {
                states[index] = HURT;
                endSteps[index] = now;
                return;
            }
            if (states[index] == SITS && (isTold || smoke >= 10)) {
                states[index] = READY;
                readySteps[index] = now;
            }
            if (states[index] == READY && now - readySteps[index] >= 3) {
                states[index] = WALKS;
            }
            if (states[index] == WALKS && (smoke < 40 || now % 2 == 0)) {
                goOn(index, now, doors);
            }
        }

        private void goOn(int index, int now, Doors doors) {
            if (!isPerson(index)) {
                return;
            }
            int from = places[index];
            int to = from + Integer.compare(doors.nearestWay(from), from);
            if (to == from || !isSegment(to)) {
                states[index] = OUT;
                endSteps[index] = now;
                places[index] = NONE;
            } else {
                places[index] = to;
            }
        }

        int howMany(int state) {
            int many = 0;
            for (int i = 0; i < size && i < MOST_PERSONS; i++) {
                if (states[i] == state) {
                    many++;
                }
            }
            return many;
        }

        int insideOf(int segment) {
            int many = 0;
            for (int i = 0; i < size && i < MOST_PERSONS; i++) {
                if (places[i] == segment) {
                    many++;
                }
            }
            return many;
        }

        int stateOf(int index) {
            return isPerson(index) ? states[index] : SITS;
        }

        int segmentOf(int index) {
            return isPerson(index) ? places[index] : NONE;
        }

        int endOf(int index) {
            return isPerson(index) ? endSteps[index] : NONE;
        }

        private boolean isPerson(int index) {
            return index >= 0 && index < size && index < MOST_PERSONS;
        }

        int size() {
            return size;
        }
    }
}
