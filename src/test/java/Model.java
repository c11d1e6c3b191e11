import java.util.ArrayList;
import java.util.List;
import java.util.TreeMap;

/**
 * The document once more, written slowly and in another form, to compare the class with. It keeps
 * smoke in a map by place, with the places -1 and 12 ahead of and behind the tube and 99 for the
 * damper's shaft, and asks each thing anew.
 */
final class Model {
    private static final int SHAFT = 99;

    private static final class Someone {
        int how = 0;
        int at;
        int gotReady = -1;
        int ended = -1;
    }

    private static final class Deed {
        int kind;
        int delay;
        boolean fails;
        int doneIn = -1;
    }

    private final TreeMap<Integer, Integer> smoke = new TreeMap<>();
    private final TreeMap<Integer, Integer> heat = new TreeMap<>();
    private final TreeMap<Integer, String> doors = new TreeMap<>();
    private final List<Integer> brokenDoors = new ArrayList<>();
    private final List<String> brokenDetectors = new ArrayList<>();
    private final List<Someone> persons = new ArrayList<>();
    private final List<Deed> deeds = new ArrayList<>();
    private final int[] wanted = new int[3];
    private final int[] blows = new int[3];
    private final boolean[] brokenFans = new boolean[3];
    private final boolean[] feeds = {true, true};
    private int wind = 0;
    private double flow = 0.0;
    private boolean traffic = true;
    private boolean told = false;
    private boolean damperOpen = false;
    private boolean foam = false;
    private int water = 30;
    private int damper = 6;
    private int fireAt = -1;
    private int fireSize = 0;
    private int fireStep = 0;
    private int alarmAt = -1;
    private int alarmStep = -1;
    private int clock = 0;

    private static void index(boolean isThere) {
        if (!isThere) {
            throw new IndexOutOfBoundsException();
        }
    }

    private static void argument(boolean isFine) {
        if (!isFine) {
            throw new IllegalArgumentException();
        }
    }

    private static void state(boolean isFine) {
        if (!isFine) {
            throw new IllegalStateException();
        }
    }

    private static boolean in(int from, int value, int to) {
        return from <= value && value <= to;
    }

    int call(String name, int a, int b, boolean c) {
        switch (name) {
            case "build":
                index(in(0, b, 11));
                argument(in(0, a, 4095));
                state(clock == 0);
                doors.clear();
                brokenDoors.clear();
                for (int i = 0; i < 12; i++) {
                    if (a / (int) Math.pow(2, i) % 2 == 1) {
                        doors.put(i, "shut");
                    }
                }
                damper = b;
                damperOpen = false;
                return 0;
            case "people":
                index(in(0, a, 11));
                argument(in(1, b, 30));
                state(persons.size() + b <= 30);
                for (int i = 0; i < b; i++) {
                    Someone someone = new Someone();
                    someone.at = a;
                    persons.add(someone);
                }
                return persons.size();
            case "wind":
                argument(in(-40, a, 40));
                int before = wind;
                wind = a;
                return before;
            case "fire":
                index(in(0, a, 11));
                argument(in(1, b, 200));
                state(fireAt < 0);
                fireAt = a;
                fireSize = b;
                fireStep = clock;
                return 0;
            case "feed":
                index(in(0, a, 1));
                feeds[a] = c;
                return power() ? 1 : 0;
            case "failFan":
                index(in(0, a, 2));
                brokenFans[a] = c;
                return blows[a];
            case "failDoor":
                index(in(0, a, 11) && doors.containsKey(a));
                brokenDoors.remove(Integer.valueOf(a));
                if (c) {
                    brokenDoors.add(a);
                }
                return doors.get(a).equals("open") ? 1 : 0;
            case "failDetector":
                index(in(0, a, 11) && in(0, b, 2));
                brokenDetectors.remove(a + "/" + b);
                if (c) {
                    brokenDetectors.add(a + "/" + b);
                }
                return 0;
            case "act":
                argument(in(0, a, 7) && in(0, b, 20));
                state(deeds.size() < 10 && alarmAt < 0);
                Deed deed = new Deed();
                deed.kind = a;
                deed.delay = b;
                deed.fails = c;
                deeds.add(deed);
                return deeds.size() - 1;
            case "command":
                index(in(0, a, 2));
                argument(in(-1, b, 1));
                int was = wanted[a];
                wanted[a] = b;
                return was;
            case "step":
                argument(in(1, a, 100));
                for (int i = 0; i < a; i++) {
                    oneStep();
                }
                return clock;
            default:
                return ask(name, a, b);
        }
    }

    private int ask(String name, int a, int b) {
        switch (name) {
            case "segment":
                index(in(0, a, 11));
                argument(in(0, b, 4));
                String door = doors.getOrDefault(a, "none");
                int[] all = {of(smoke, a), of(heat, a), telling(a), inside(a),
                    door.equals("none") ? -1 : door.equals("open") ? 1 : 0};
                return all[b];
            case "flow":
                return (int) (flow * 100);
            case "fan":
                index(in(0, a, 2));
                return blows[a];
            case "alarm":
                return alarmAt;
            case "done":
                index(in(0, a, deeds.size() - 1));
                return deeds.get(a).doneIn;
            case "person":
                index(in(0, a, persons.size() - 1));
                argument(in(0, b, 2));
                Someone one = persons.get(a);
                return b == 0 ? one.how : b == 1 ? (one.how == 3 ? -1 : one.at) : one.ended;
            case "count":
                argument(in(0, a, 4));
                return (int) persons.stream().filter(p -> p.how == a).count();
            case "gone":
                return of(smoke, -1) + of(smoke, 12) + of(smoke, SHAFT);
            case "balances":
                return 1;
            default:
                throw new UnsupportedOperationException(name);
        }
    }

    private boolean power() {
        return feeds[0] || feeds[1];
    }

    private static int of(TreeMap<Integer, Integer> map, int place) {
        return map.getOrDefault(place, 0);
    }

    private static void move(TreeMap<Integer, Integer> map, int from, int to, int much) {
        map.merge(from, -much, Integer::sum);
        map.merge(to, much, Integer::sum);
    }

    private int inside(int place) {
        return (int) persons.stream().filter(p -> p.how != 3 && p.at == place).count();
    }

    private int telling(int place) {
        boolean[] tells = {of(heat, place) >= 20, of(smoke, place) >= 15,
            inside(place) > 0 && of(smoke, place) >= 10};
        int many = 0;
        for (int i = 0; i < 3; i++) {
            many += tells[i] && !brokenDetectors.contains(place + "/" + i) ? 1 : 0;
        }
        return many;
    }

    private void oneStep() {
        for (int i = 0; i < 3; i++) {
            int to = power() ? wanted[i] : 0;
            if (!brokenFans[i] && blows[i] != to) {
                blows[i] += blows[i] < to ? 1 : -1;
            }
        }
        double aim = 15 * (blows[0] + blows[1] + blows[2]) + wind + (traffic ? 5 : 0);
        aim = Math.max(-90.0, Math.min(90.0, aim));
        flow = flow + (aim - flow) * 0.25;
        if (fireAt >= 0) {
            burn();
        }
        blowSmoke();
        for (int i = 11; i >= 0 && alarmStep < 0; i--) {
            alarmAt = telling(i) >= 2 ? i : alarmAt;
        }
        if (alarmAt >= 0 && alarmStep < 0) {
            alarmStep = clock;
        }
        doDeeds();
        for (Someone someone : persons) {
            live(someone);
        }
        clock++;
    }

    private void burn() {
        int age = clock - fireStep;
        int strength = (int) Math.min((double) fireSize, 1 + Math.floor(Math.pow(age, 2) / 4));
        if (foam && water > 0 && power()) {
            strength = (int) Math.floor(strength / 2.0);
            water = water - 1;
        }
        smoke.merge(fireAt, strength, Integer::sum);
        heat.merge(fireAt, strength, Integer::sum);
    }

    private void blowSmoke() {
        int ahead = flow >= 0.0 ? 1 : -1;
        long hundredths = (long) Math.floor(Math.abs(flow));
        TreeMap<Integer, Integer> was = new TreeMap<>(smoke);
        for (int i = 0; i < 12; i++) {
            move(smoke, i, i + ahead, (int) (of(was, i) * hundredths / 100));
        }
        if (fireAt >= 0 && Math.abs(flow) < 30.0) {
            move(smoke, fireAt, fireAt - ahead, of(smoke, fireAt) / 10);
        }
        if (damperOpen) {
            move(smoke, damper, SHAFT, of(smoke, damper) / 3);
        }
        for (int i = 0; i < 12; i++) {
            heat.put(i, of(heat, i) - (int) Math.ceil(of(heat, i) / 4.0));
        }
    }

    /** When each is due follows from the alarm and the waits of all ahead of it. */
    private void doDeeds() {
        if (alarmStep < 0) {
            return;
        }
        int due = alarmStep;
        for (Deed deed : deeds) {
            due += deed.fails ? 2 * deed.delay + 3 : deed.delay;
            if (due == clock) {
                deed.doneIn = clock;
                perform(deed.kind);
            }
        }
    }

    private void perform(int kind) {
        traffic = traffic && kind != TubeWatch.STOP;
        told = told || kind == TubeWatch.TELL;
        damperOpen = damperOpen || kind == TubeWatch.DAMPER;
        foam = foam || kind == TubeWatch.FOAM;
        if (kind == TubeWatch.DOORS) {
            doors.replaceAll((place, how) -> brokenDoors.contains(place) ? how : "open");
        }
        if (kind == TubeWatch.LEFT || kind == TubeWatch.RIGHT || kind == TubeWatch.OFF) {
            int to = kind == TubeWatch.LEFT ? -1 : kind == TubeWatch.RIGHT ? 1 : 0;
            wanted[0] = wanted[1] = wanted[2] = to;
        }
    }

    private void live(Someone one) {
        int around = of(smoke, one.at);
        if (one.how == 3 || one.how == 4) {
            return;
        }
        if (around >= 100) {
            one.how = 4;
            one.ended = clock;
            return;
        }
        if (one.how == 0 && (told || around >= 10)) {
            one.how = 1;
            one.gotReady = clock;
        } else if (one.how == 1 && clock == one.gotReady + 3) {
            one.how = 2;
        }
        if (one.how != 2 || around >= 40 && clock % 2 == 1) {
            return;
        }
        if ("open".equals(doors.get(one.at))) {
            one.at = -1;
        } else {
            one.at += way(one.at);
        }
        if (!in(0, one.at, 11)) {
            one.how = 3;
            one.ended = clock;
        }
    }

    /** Looks further and further: doors to the left, doors to the right, the left mouth, the right one. */
    private int way(int from) {
        for (int away = 1; away <= 12; away++) {
            if ("open".equals(doors.get(from - away))) {
                return -1;
            }
            if ("open".equals(doors.get(from + away))) {
                return 1;
            }
            if (from - away == -1) {
                return -1;
            }
            if (from + away == 12) {
                return 1;
            }
        }
        return 0;
    }
}
