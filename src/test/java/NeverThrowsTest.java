/** Rule 7 of the language: no call throws by itself, whatever its arguments, also far behind the 512th call. */
public final class NeverThrowsTest {
    private static final int OBJECTS = 12;
    private static final int CALLS = 6000;
    private static final int KINDS = 20;
    private static final Class<?>[] OWN = {
        null, IndexOutOfBoundsException.class, IllegalArgumentException.class, IllegalStateException.class,
    };

    private static long seed = 77L;

    private static int next(int from, int to) {
        seed = seed * 6364136223846793005L + 1442695040888963407L;
        return from + (int) ((seed >>> 33) % (to - from + 1));
    }

    public static void main(String[] args) {
        for (int i = 0; i < OBJECTS; i++) {
            TubeWatch x = Lives.make(i % Lives.NAMES.length);
            for (int call = 0; call < CALLS; call++) {
                int kind = next(0, 2) == 0 ? 10 : next(0, KINDS - 1);
                int a = any(kind == 10 ? 101 : 12);
                int b = any(30);
                boolean c = next(0, 1) == 0;
                Class<?> thrown = Check.classThrownBy(() -> call(x, kind, a, b, c));
                Check.due("call " + kind + " of " + a + ", " + b + " threw " + thrown, isOwn(thrown), true);
            }
        }
        Check.end();
    }

    private static int any(int most) {
        int far = next(0, 19);
        return far == 0 ? Integer.MIN_VALUE : far == 1 ? Integer.MAX_VALUE : far == 2 ? next(-5000, 5000) : next(-1, most);
    }

    private static boolean isOwn(Class<?> thrown) {
        for (Class<?> own : OWN) {
            if (own == thrown) {
                return true;
            }
        }
        return false;
    }

    private static void call(TubeWatch x, int kind, int a, int b, boolean c) {
        switch (kind) {
            case 0 -> x.build(b, a);
            case 1 -> x.people(a, b);
            case 2 -> x.wind(b);
            case 3 -> x.fire(a, b);
            case 4 -> x.feed(a, c);
            case 5 -> x.failFan(a, c);
            case 6 -> x.failDoor(a, c);
            case 7 -> x.failDetector(a, b, c);
            case 8 -> x.act(a, b, c);
            case 9 -> x.command(a, b);
            case 10 -> x.step(a);
            case 11 -> x.segment(a, b);
            case 12 -> x.flow();
            case 13 -> x.fan(a);
            case 14 -> x.alarm();
            case 15 -> x.done(a);
            case 16 -> x.person(b, a);
            case 17 -> x.count(a);
            case 18 -> x.gone();
            default -> x.balances();
        }
    }
}
