/**
 * "segments 0 to 11, from the left mouth to the right one": a tube and its mirrored one, with the fire,
 * the damper, the one door and the persons on the other side, and winds and fans turned around, go on
 * alike. The 5 of the traffic is made up by the wind. A flow of 0.0 and two doors as near as each other
 * are not mirrored, and so are not here.
 */
public final class MirrorTest {
    private static final int LAST = 11;
    private static final int[][] WINDS = {{10, -33, 4, 28}, {-6, -7, -20, 30}, {-4, 6, -40, -2}, {30, 25, 11, -39}};
    private static final int[] STEPS = {7, 9, 14, 40};

    public static void main(String[] args) {
        for (int fire = 0; fire <= LAST; fire++) {
            for (int[] winds : WINDS) {
                for (int side = -1; side <= 1; side++) {
                    follow(fire, winds, side);
                }
            }
        }
        Check.end();
    }

    private static void follow(int fire, int[] winds, int side) {
        TubeWatch x = begin(fire, side, false);
        TubeWatch y = begin(fire, side, true);
        for (int i = 0; i < STEPS.length; i++) {
            x.wind(winds[i]);
            y.wind(-10 - winds[i]);
            if (i == 3) {
                x.failFan(1, true);
                y.failFan(1, true);
                x.feed(1, false);
                y.feed(1, false);
                x.feed(0, false);
                y.feed(0, false);
            }
            x.step(STEPS[i]);
            y.step(STEPS[i]);
            compare("fire " + fire + ", fans " + side + ", winds to " + winds[i], x, y);
        }
    }

    private static TubeWatch begin(int fire, int side, boolean isMirrored) {
        TubeWatch x = new TubeWatch();
        x.build(1 << place(fire * 7 % 12, isMirrored), place((fire * 5 + 3) % 12, isMirrored));
        x.people(place(fire, isMirrored), 2);
        x.people(place((fire + 4) % 12, isMirrored), 1);
        x.people(place((fire + 7) % 12, isMirrored), 3);
        x.fire(place(fire, isMirrored), 180);
        x.command(0, isMirrored ? -side : side);
        x.command(2, isMirrored ? -side : side);
        x.act(TubeWatch.TELL, 1, false);
        x.act(TubeWatch.DOORS, 0, true);
        x.act(TubeWatch.DAMPER, 2, false);
        x.act(isMirrored ? TubeWatch.LEFT : TubeWatch.RIGHT, 4, true);
        return x;
    }

    private static int place(int segment, boolean isMirrored) {
        return isMirrored ? LAST - segment : segment;
    }

    private static void compare(String name, TubeWatch x, TubeWatch y) {
        for (int i = 0; i <= LAST; i++) {
            for (int what = 0; what < 5; what++) {
                Check.due(name + ": " + what + " of " + i, y.segment(LAST - i, what), x.segment(i, what));
            }
        }
        for (int person = 0; person < 6; person++) {
            int at = x.person(person, 1);
            Check.due(name + ": state of " + person, y.person(person, 0), x.person(person, 0));
            Check.due(name + ": place of " + person, y.person(person, 1), at == TubeWatch.NONE ? at : LAST - at);
            Check.due(name + ": end of " + person, y.person(person, 2), x.person(person, 2));
        }
        Check.due(name + ": gone", y.gone(), x.gone());
        Check.due(name + ": flow", y.flow(), -x.flow());
        for (int act = 0; act < 4; act++) {
            Check.due(name + ": act " + act, y.done(act), x.done(act));
        }
    }
}
