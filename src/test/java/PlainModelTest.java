import java.util.ArrayList;
import java.util.Arrays;
import java.util.List;

// Long runs of mixed calls against a plain model that is written apart from the program: it parses by a
// pattern, holds real byte, short and int rows, follows a thing hour by hour and tries every order of a ROTA.
public final class PlainModelTest {
    private static final int RUNS = 1500, CALLS = 512, LONGEST_STEPS = 50;
    private static long seed = 20261119L;

    public static void main(String[] args) {
        int wrong = 0;
        for (int run = 0; run < RUNS && wrong < 10; run++) {
            wrong += run(run);
        }
        System.out.println("PlainModelTest: " + (wrong == 0 ? "all as due" : wrong + " runs not as due"));
        if (wrong != 0) {
            System.exit(1);
        }
    }

    // The same runs each time: no random source.
    private static int below(int bound) {
        seed = seed * 6364136223846793005L + 1442695040888963407L;
        return (int) ((seed >>> 33) % bound);
    }

    private static int near(int least, int most) {
        int which = below(40);
        if (which == 0) {
            return new int[] {Integer.MIN_VALUE, Integer.MAX_VALUE, -9, 1 << 16, -1}[below(5)];
        }
        return which < 4 ? least - 1 + below(most - least + 3) : least + below(most - least + 1);
    }

    private static String someText() {
        StringBuilder s = new StringBuilder("g").append(below(10));
        int places = 1 + below(6);
        int drawers = 1 + below(5);
        for (int k = 0; k < places; k++) {
            s.append(below(drawers));
        }
        int things = 1 + below(5);
        for (int x = 0; x < things; x++) {
            s.append(';').append("tlr".charAt(below(3))).append(below(10)).append(below(5)).append(below(5))
                .append(below(10));
        }
        if (below(4) == 0) {
            int at = below(s.length());
            switch (below(4)) {
                case 0 -> s.setCharAt(at, "gtlr;0459x".charAt(below(10)));
                case 1 -> s.deleteCharAt(at);
                case 2 -> s.insert(at, "gtlr;0459x".charAt(below(10)));
                default -> s.setLength(at);
            }
        }
        return s.toString();
    }

    private static int run(int run) {
        WellBack w = new WellBack();
        Model m = new Model();
        int calls = 0;
        while (calls < CALLS - LONGEST_STEPS) {
            for (int[] step : someSteps(m, calls == 0)) {
                calls++;
                if (differs(run, w, m, step)) {
                    return 1;
                }
            }
        }
        return 0;
    }

    // Now and then some calls that belong together, as calls by themselves seldom come to what they ask.
    private static List<int[]> someSteps(Model m, boolean first) {
        int which = first ? 0 : below(80);
        if (which == 0) {
            return stepsOfAText();
        }
        if (which < 3 && !m.things.isEmpty()) {
            return which == 1 ? stepsOfHours(m.things.size()) : stepsOfReadings(m);
        }
        return List.of(someCall());
    }

    private static List<int[]> stepsOfAText() {
        String text = someText();
        int sheet = below(4);
        int lane = below(3);
        List<int[]> steps = new ArrayList<>();
        steps.add(new int[] {20, sheet, lane, text.length(), 0, 0});
        for (int i = 0; i < text.length(); i++) {
            steps.add(new int[] {22, sheet, i, text.charAt(i), 0, 0});
        }
        steps.add(new int[] {0, sheet, lane, 0, text.length(), 0});
        return steps;
    }

    private static List<int[]> stepsOfHours(int things) {
        int sheet = below(4);
        int lane = below(3);
        int ahead = below(3);
        List<int[]> steps = new ArrayList<>();
        steps.add(new int[] {20, sheet, lane, ahead + things, 0, 0});
        for (int x = 0; x < things; x++) {
            steps.add(new int[] {22, sheet, ahead + x, below(60) == 0 ? near(0, 23) : below(24), 0, 0});
        }
        for (int what : new int[] {0, 1, 2, 10, 11, 12, 13, 14}) {
            steps.add(new int[] {10, sheet, lane, ahead, things, what});
        }
        return steps;
    }

    // READINGS that are so, but for one now and then: what is left of a set tells more than an empty one.
    private static List<int[]> stepsOfReadings(Model m) {
        List<int[]> steps = new ArrayList<>();
        if (below(2) == 0) {
            steps.add(new int[] {14, m.readings.size(), 0, 0, 0, 0});
        }
        int many = 1 + below(9);
        for (int k = 0; k < many; k++) {
            Thing t = m.things.get(below(m.things.size()));
            int hour = below(24);
            int who = below(20) == 0 ? below(5) : m.drop(t.owner, hour, t.delay(m.depth)).who;
            steps.add(new int[] {13, t.number, hour, who, 0, 0});
            steps.add(new int[] {15 + below(3), below(m.things.size()), 0, 0, 0, 0});
        }
        steps.add(new int[] {17, 0, 0, 0, 0, 0});
        for (int x = 0; x < m.things.size(); x++) {
            steps.add(new int[] {15, x, 0, 0, 0, 0});
            steps.add(new int[] {16, x, 0, 0, 0, 0});
        }
        return steps;
    }

    private static int[] someCall() {
        int call = below(31);
        int thing = near(0, 4);
        int sheet = near(0, 3);
        int lane = near(0, 2);
        switch (call) {
            case 0: return new int[] {0, sheet, lane, near(0, 9), near(0, 40), 0};
            case 1: return new int[] {1, thing, near(0, 5), 0, 0, 0};
            case 2: return new int[] {2, near(0, 99), 0, 0, 0, 0};
            case 3: return new int[] {3, thing, near(0, 9), 0, 0, 0};
            case 4: return new int[] {4, near(0, 9), 0, 0, 0, 0};
            case 5: return new int[] {5, near(0, 5), near(0, 4), 0, 0, 0};
            case 6: return new int[] {6, thing, near(0, 4), near(0, 99), near(0, 2), 0};
            case 7: return new int[] {7, thing, near(0, 30), 0, 0, 0};
            case 10: return new int[] {10, sheet, lane, near(0, 5), near(1, 5), below(2) == 0 ? near(0, 2) : near(10, 14)};
            case 11: return new int[] {11, thing, near(0, 4), 0, 0, 0};
            case 12: return new int[] {12, near(-1, 5), 0, 0, 0, 0};
            case 13: return new int[] {13, thing, near(0, 23), below(5) == 0 ? -9 : near(0, 4), 0, 0};
            case 14: return new int[] {14, near(0, 4), 0, 0, 0, 0};
            case 18: return new int[] {18, thing, near(0, 1), 0, 0, 0};
            case 20: return new int[] {20, sheet, lane, near(0, 60), 0, 0};
            case 22: return new int[] {22, sheet, near(0, 20), below(2) == 0 ? near(0, 23) : near(-70000, 70000), 0, 0};
            case 23: return new int[] {23, sheet, near(0, 20), lane, 0, 0};
            case 24: return new int[] {24, sheet, near(0, 12), near(0, 3), near(0, 12), near(0, 12)};
            case 27: return new int[] {27, thing, near(0, 2), 0, 0, 0};
            case 30: return new int[] {30, near(0, 3), 0, 0, 0, 0};
            default: return new int[] {call, call == 21 ? sheet : thing, 0, 0, 0, 0};
        }
    }

    private static boolean differs(int run, WellBack w, Model m, int[] c) {
        long want = m.answer(c);
        long got = program(w, c);
        if (got == want) {
            return false;
        }
        System.out.println("run " + run + ": call " + Arrays.toString(c) + " answered " + got + ", due is " + want);
        return true;
    }

    private static long program(WellBack w, int[] c) {
        return switch (c[0]) {
            case 0 -> w.well(c[1], c[2], c[3], c[4]);
            case 1 -> w.ofThing(c[1], c[2]);
            case 2 -> w.draws(c[1]);
            case 3 -> w.weigh(c[1], c[2]);
            case 4 -> w.dig(c[1]);
            case 5 -> w.hire(c[1], c[2]);
            case 6 -> w.drop(c[1], c[2], c[3], c[4]);
            case 7 -> w.hands(c[1], c[2]);
            case 8 -> w.home(c[1]);
            case 9 -> w.meets(c[1]);
            case 10 -> w.hours(c[1], c[2], c[3], c[4], c[5]);
            case 11 -> w.when(c[1], c[2]);
            case 12 -> w.best(c[1]);
            case 13 -> w.reading(c[1], c[2], c[3]);
            case 14 -> w.back(c[1]);
            case 15 -> w.weights(c[1]);
            case 16 -> w.kinds(c[1]);
            case 17 -> w.depths();
            case 18 -> w.odds(c[1], c[2]);
            case 20 -> w.sheet(c[1], c[2], c[3]);
            case 21 -> w.lose(c[1]);
            case 22 -> w.put(c[1], c[2], c[3]);
            case 23 -> w.cell(c[1], c[2], c[3]);
            case 24 -> w.copy(c[1], c[2], c[3], c[4], c[5]);
            case 25 -> w.tell(c[1]);
            case 26 -> w.splash(c[1]);
            case 27 -> w.as(c[1], c[2]);
            case 28 -> w.trace();
            case 29 -> w.fault();
            case 30 -> w.many(c[1]);
            default -> 0;
        };
    }

    /** A thing's body, told by the language's own overriding. */
    private static class Thing {
        final Model model;
        final int number;
        int weight, owner, goal, hour;

        Thing(Model model, int number) {
            this.model = model;
            this.number = number;
        }

        int delay(int depth) {
            return depth + weight;
        }

        int tellAsThing() {
            model.leave(1);
            return weight;
        }

        int tell() {
            return tellAsThing();
        }

        int splash() {
            model.leave(4);
            return number;
        }
    }

    private static class Letter extends Thing {
        Letter(Model model, int number) {
            super(model, number);
        }

        @Override int delay(int depth) {
            return super.delay(depth) == 0 ? 0 : super.delay(depth) - 1;
        }

        @Override int tell() {
            model.leave(2);
            return super.tell() + 100;
        }
    }

    private static final class Ring extends Letter {
        Ring(Model model, int number) {
            super(model, number);
        }

        @Override int delay(int depth) {
            return (depth + weight) * 2;
        }

        @Override int tell() {
            model.leave(3);
            return super.tell() + tellAsThing();
        }

        @Override int splash() {
            model.leave(5);
            return 80;
        }
    }

    private record Drawn(int who, int hour, int ups) {
    }

    private static final class Model {
        final Object[] sheets = new Object[4];
        List<Thing> things = new ArrayList<>();
        List<Integer> rota = new ArrayList<>();
        final List<int[]> readings = new ArrayList<>();
        int depth, trace, fault;

        void leave(int number) {
            trace = trace * 31 + number;
        }

        long answer(int[] c) {
            boolean names = List.of(0, 10, 20, 22, 23, 24, 27).contains(c[0]);
            if (!names) {
                return plain(c);
            }
            long a = naming(c);
            fault = a <= -11 && a >= -14 ? (int) (-10 - a) : 0;
            if (c[0] == 0 && a <= -1000) {
                return a + 900;
            }
            if (c[0] == 23) {
                return a >= 1L << 40 ? a - (1L << 41) : Long.MIN_VALUE;
            }
            return a;
        }

        // Texts' faults come as -1000 less it and cells' numbers with 2^41, apart from faults.
        long naming(int[] c) {
            return switch (c[0]) {
                case 0 -> well(c[1], c[2], c[3], c[4]);
                case 10 -> hours(c[1], c[2], c[3], c[4], c[5]);
                case 20 -> !isSheet(c[1]) ? -1 : badLane(c[2]) || c[3] > 60 ? -2 : c[3] < 0 ? -14 : anew(c[1], c[2], c[3]);
                case 22 -> !isSheet(c[1]) ? -1 : sheets[c[1]] == null ? -11
                    : c[2] < 0 || c[2] >= count(sheets[c[1]]) ? -13 : set(sheets[c[1]], c[2], c[3]);
                case 23 -> !isSheet(c[1]) ? -1 : badLane(c[3]) ? -2 : lane(c[1]) >= 0 && lane(c[1]) != c[3] ? -12
                    : lane(c[1]) < 0 ? -11 : c[2] < 0 || c[2] >= count(sheets[c[1]]) ? -13
                    : (1L << 41) + get(sheets[c[1]], c[2]);
                case 24 -> copy(c[1], c[2], c[3], c[4], c[5]);
                default -> c[1] < 0 || c[1] >= things.size() ? -1 : c[2] < 0 || c[2] > 2 ? -2
                    : c[2] == 0 || c[2] == 1 && things.get(c[1]) instanceof Letter || things.get(c[1]) instanceof Ring
                    ? 1 : -12;
            };
        }

        long plain(int[] c) {
            boolean isThing = c[1] >= 0 && c[1] < things.size();
            Thing t = isThing ? things.get(c[1]) : null;
            switch (c[0]) {
                case 1:
                    return t == null ? -1 : c[2] == 0 ? (t instanceof Ring ? 2 : t instanceof Letter ? 1 : 0)
                        : c[2] == 1 ? t.weight : c[2] == 2 ? t.owner : c[2] == 3 ? t.goal : c[2] == 4 ? t.hour
                        : c[2] == 5 ? t.delay(depth) : -2;
                case 2:
                    return rota.isEmpty() ? -3 : c[1] < 0 || c[1] > 99 ? -2 : who(c[1]);
                case 3:
                    if (t == null || c[2] < 0 || c[2] > 9) {
                        return t == null ? -1 : -2;
                    }
                    int weight = t.weight;
                    t.weight = c[2];
                    return weight;
                case 4:
                    if (c[1] < 0 || c[1] > 9 || rota.isEmpty()) {
                        return c[1] < 0 || c[1] > 9 ? -2 : -3;
                    }
                    int was = depth;
                    depth = c[1];
                    return was;
                case 5:
                    return c[1] < 0 || c[1] >= rota.size() || badDrawer(c[2]) ? -1 : rota.set(c[1], c[2]);
                case 6:
                    if (t == null || badDrawer(c[2]) || c[3] < 0 || c[3] > 99 || c[4] < 0 || c[4] > 2) {
                        return t == null || badDrawer(c[2]) ? -1 : -2;
                    }
                    Drawn drawn = drop(c[2], c[3], t.delay(depth));
                    return c[4] == 0 ? drawn.who : c[4] == 1 ? drawn.hour : drawn.ups;
                case 7:
                    return t == null ? -1 : c[2] < 0 || c[2] > 30 ? -2 : c[2] < ring(t).size() ? ring(t).get(c[2]) : -9;
                case 8:
                    if (t == null) {
                        return -1;
                    }
                    int home = ring(t).subList(1, Math.min(31, ring(t).size())).indexOf(t.owner);
                    return home < 0 ? -9 : home + 1;
                case 9:
                    return t == null ? -1 : ring(t).stream().distinct().mapToInt(d -> 1 << d).sum();
                case 11:
                    return t == null || badDrawer(c[2]) ? -1 : when(t, c[2]);
                case 12:
                    return best(c[1]);
                default:
                    return aboutReadings(c, t);
            }
        }

        long aboutReadings(int[] c, Thing t) {
            switch (c[0]) {
                case 13:
                    if (t == null || badDrawer(c[3]) && c[3] != -9) {
                        return -1;
                    }
                    if (c[2] < 0 || c[2] > 23 || readings.size() == 8) {
                        return c[2] < 0 || c[2] > 23 ? -2 : -4;
                    }
                    readings.add(new int[] {c[1], c[2], c[3]});
                    return readings.size() - 1;
                case 14:
                    if (c[1] < 0 || c[1] > readings.size()) {
                        return -2;
                    }
                    readings.subList(readings.size() - c[1], readings.size()).clear();
                    return readings.size();
                case 15:
                    return t == null ? -1 : weights(t);
                case 16:
                    return t == null ? -1 : kinds(t);
                case 17:
                    return rota.isEmpty() ? -3 : depths();
                case 18:
                    return t == null || c[2] < 0 || c[2] > 1 ? Long.MIN_VALUE : odds(t, c[2]);
                case 21:
                    if (!isSheet(c[1])) {
                        return -1;
                    }
                    boolean had = sheets[c[1]] != null;
                    sheets[c[1]] = null;
                    return had ? 1 : 0;
                case 25:
                    return t == null ? -1 : t.tell();
                case 26:
                    return t == null ? -1 : t.splash();
                case 28:
                    return trace;
                case 29:
                    return fault;
                case 30:
                    return c[1] == 0 ? things.size() : c[1] == 1 ? rota.size() : c[1] == 2 ? depth
                        : c[1] == 3 ? readings.size() : -2;
                default:
                    return 0;
            }
        }

        // ---- sheets

        static boolean isSheet(int k) {
            return k >= 0 && k <= 3;
        }

        static boolean badLane(int lane) {
            return lane < 0 || lane > 2;
        }

        static boolean badDrawer(int d) {
            return d < 0 || d > 4;
        }

        int lane(int k) {
            Object row = sheets[k];
            return row instanceof byte[] ? 0 : row instanceof short[] ? 1 : row instanceof int[] ? 2 : -1;
        }

        static int count(Object row) {
            return java.lang.reflect.Array.getLength(row);
        }

        static int get(Object row, int i) {
            return java.lang.reflect.Array.getInt(row, i);
        }

        static int set(Object row, int i, int v) {
            if (row instanceof byte[] bytes) {
                bytes[i] = (byte) v;
            } else if (row instanceof short[] shorts) {
                shorts[i] = (short) v;
            } else {
                ((int[]) row)[i] = v;
            }
            return 1;
        }

        int anew(int k, int lane, int n) {
            sheets[k] = lane == 0 ? new byte[n] : lane == 1 ? new short[n] : new int[n];
            return 1;
        }

        static boolean beyond(int i, int n, int count) {
            return i < 0 || n < 0 || i > count || (long) i + n > count;
        }

        int copy(int k, int i, int other, int j, int n) {
            if (!isSheet(k) || !isSheet(other)) {
                return -1;
            }
            if (sheets[k] == null || sheets[other] == null) {
                return -11;
            }
            if (sheets[k].getClass() != sheets[other].getClass()) {
                return -12;
            }
            if (beyond(i, n, count(sheets[k])) || beyond(j, n, count(sheets[other]))) {
                return -13;
            }
            System.arraycopy(sheets[k], i, sheets[other], j, n);
            return n;
        }

        int cellsFault(int k, int lane, int i, int n) {
            if (sheets[k] == null) {
                return -11;
            }
            return lane(k) != lane ? -12 : n < 0 ? -14 : beyond(i, n, count(sheets[k])) ? -13 : 0;
        }

        // ---- the text

        // A start of a TEXT is whatever can still be filled up to a whole one.
        static boolean startsText(String s) {
            String filled = "g00;t0000";
            for (int cut = 0; cut <= filled.length(); cut++) {
                if (isText(s + filled.substring(cut)) || isText(s + "t0000".substring(Math.min(cut, 5)))) {
                    return true;
                }
            }
            return false;
        }

        static boolean isText(String s) {
            return s.matches("g[0-9][0-4]{1,6}(;[tlr][0-9][0-4][0-4][0-9]){1,5}");
        }

        int well(int k, int lane, int i, int n) {
            if (!isSheet(k) || badLane(lane)) {
                return isSheet(k) ? -2 : -1;
            }
            int found = cellsFault(k, lane, i, n);
            if (found != 0) {
                return found;
            }
            StringBuilder s = new StringBuilder();
            for (int at = i; at < i + n; at++) {
                int code = get(sheets[k], at);
                s.append(code >= 0 && code < 128 ? (char) code : '?');
            }
            String text = s.toString();
            if (!isText(text)) {
                int place = 0;
                while (place < text.length() && startsText(text.substring(0, place + 1))) {
                    place++;
                }
                return -1000 - place;
            }
            String[] parts = text.split(";");
            depth = parts[0].charAt(1) - '0';
            rota = new ArrayList<>();
            for (char d : parts[0].substring(2).toCharArray()) {
                rota.add(d - '0');
            }
            things = new ArrayList<>();
            for (int x = 0; x < parts.length - 1; x++) {
                things.add(thing(parts[x + 1], x));
            }
            readings.clear();
            return things.size();
        }

        Thing thing(String part, int x) {
            return filled(ofKind("tlr".indexOf(part.charAt(0)), x), part.charAt(1) - '0', part.charAt(2) - '0',
                part.charAt(3) - '0', part.charAt(4) - '0');
        }

        Thing ofKind(int kind, int x) {
            return kind == 0 ? new Thing(this, x) : kind == 1 ? new Letter(this, x) : new Ring(this, x);
        }

        static Thing filled(Thing t, int weight, int owner, int goal, int hour) {
            t.weight = weight;
            t.owner = owner;
            t.goal = goal;
            t.hour = hour;
            return t;
        }

        // ---- who draws

        int who(int hour) {
            return rota.get(hour % rota.size());
        }

        Drawn drop(int d, int hour, int delay) {
            for (int ups = 1; ups <= 100; ups++) {
                hour += delay;
                if (who(hour) != d) {
                    return new Drawn(who(hour), hour, ups);
                }
            }
            return new Drawn(-9, -9, -9);
        }

        List<Integer> ring(Thing t) {
            List<Integer> hands = new ArrayList<>(List.of(t.owner));
            Drawn now = new Drawn(t.owner, t.hour, 0);
            for (int k = 0; k < 60; k++) {
                now = drop(now.who, now.hour, t.delay(depth));
                if (now.who == -9) {
                    break;
                }
                hands.add(now.who);
            }
            return hands;
        }

        boolean right(Thing t, int hour) {
            return drop(t.owner, hour, t.delay(depth)).who == t.goal;
        }

        int when(Thing t, int d) {
            for (int hour = 0; hour < 24; hour++) {
                if (drop(t.owner, hour, t.delay(depth)).who == d) {
                    return hour;
                }
            }
            return -9;
        }

        int hours(int k, int lane, int i, int n, int what) {
            if (!isSheet(k) || badLane(lane) || what < 0 || what > 2 && what < 10 || what > 14) {
                return isSheet(k) ? -2 : -1;
            }
            int found = cellsFault(k, lane, i, n);
            if (found != 0 || rota.isEmpty()) {
                return found != 0 ? found : -3;
            }
            if (n != things.size()) {
                return -2;
            }
            int set = 0;
            int latest = -9;
            int[] whose = new int[5];
            int[] by = new int[5];
            Arrays.fill(whose, -9);
            for (int x = 0; x < n; x++) {
                int hour = get(sheets[k], i + x);
                if (hour < 0 || hour > 23) {
                    return -2;
                }
                Thing t = things.get(x);
                Drawn drawn = drop(t.owner, hour, t.delay(depth));
                set += drawn.who == t.goal ? 1 << x : 0;
                latest = Math.max(latest, drawn.hour);
                whose[x] = drawn.who;
                if (drawn.who >= 0) {
                    by[drawn.who]++;
                }
            }
            int most = Arrays.stream(by).max().getAsInt();
            int busiest = most == 0 ? -9 : Arrays.stream(by).boxed().toList().indexOf(most);
            return what == 0 ? set : what == 1 ? latest : what == 2 ? busiest : whose[what - 10];
        }

        int best(int k) {
            if (rota.isEmpty() || k < -1 || k > 5) {
                return rota.isEmpty() ? -3 : -2;
            }
            List<Integer> kept = rota;
            List<List<Integer>> orders = new ArrayList<>();
            orders(new ArrayList<>(), new ArrayList<>(kept), orders);
            int most = -1;
            List<Integer> best = kept;
            for (List<Integer> order : orders) {
                rota = order;
                int right = (int) things.stream().filter(t -> right(t, t.hour)).count();
                if (right > most || right == most && order.toString().compareTo(best.toString()) < 0) {
                    most = right;
                    best = order;
                }
            }
            rota = kept;
            return k == -1 ? most : k < best.size() ? best.get(k) : -9;
        }

        static void orders(List<Integer> begun, List<Integer> left, List<List<Integer>> into) {
            if (left.isEmpty()) {
                into.add(new ArrayList<>(begun));
            }
            for (int k = 0; k < left.size(); k++) {
                List<Integer> rest = new ArrayList<>(left);
                begun.add(rest.remove(k));
                orders(begun, rest, into);
                begun.remove(begun.size() - 1);
            }
        }

        // ---- readings

        boolean allSo() {
            return readings.stream().allMatch(r -> {
                Thing t = things.get(r[0]);
                return drop(t.owner, r[1], t.delay(depth)).who == r[2];
            });
        }

        int weights(Thing t) {
            int kept = t.weight;
            int set = 0;
            for (t.weight = 0; t.weight < 10; t.weight++) {
                set += allSo() ? 1 << t.weight : 0;
            }
            t.weight = kept;
            return set;
        }

        int kinds(Thing t) {
            int set = 0;
            for (int kind = 0; kind < 3; kind++) {
                things.set(t.number, filled(ofKind(kind, t.number), t.weight, t.owner, t.goal, t.hour));
                set += allSo() ? 1 << kind : 0;
            }
            things.set(t.number, t);
            return set;
        }

        int depths() {
            int kept = depth;
            int set = 0;
            for (depth = 0; depth < 10; depth++) {
                set += allSo() ? 1 << depth : 0;
            }
            depth = kept;
            return set;
        }

        long odds(Thing t, int which) {
            int upper = 0;
            for (int hour = 0; hour < 12; hour++) {
                upper += right(t, hour) ? 1 : 0;
            }
            int lower = 12;
            for (int prime : new int[] {2, 2, 3}) {
                if (upper % prime == 0 && lower % prime == 0) {
                    upper /= prime;
                    lower /= prime;
                }
            }
            return which == 0 ? upper : lower;
        }
    }
}
