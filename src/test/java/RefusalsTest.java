import java.util.Arrays;

// Every refusal and every FAULT of every call: the first one past each boundary on either side, the order in
// which a line tells them, and that the call leaves all as it was (but for fault(), of a call that names FAULTS).
public final class RefusalsTest {
    private static final int LOW = Integer.MIN_VALUE, HIGH = Integer.MAX_VALUE;
    private static final int UNKNOWN = -1, OUTSIDE = -2, STATE = -3, FULL = -4;
    private static final int NULL = -11, CAST = -12, INDEX = -13, SIZE = -14;
    private static final int NOTHING = 0, A_WELL = 1, EIGHT_READINGS = 2;

    private static int wrong = 0;

    private interface Call {
        long of(WellBack w, int[] a);
    }

    public static void main(String[] args) {
        well();
        ofThing();
        draws();
        weigh();
        dig();
        hire();
        drop();
        hands();
        home();
        meets();
        hours();
        hoursThatAreNone();
        when();
        best();
        reading();
        back();
        weights();
        kinds();
        depths();
        odds();
        sheet();
        lose();
        put();
        cell();
        copy();
        tell();
        splash();
        as();
        many();
        askingChangesNothing();
        System.out.println(wrong == 0 ? "RefusalsTest: all as due" : "RefusalsTest: " + wrong + " not as due");
        if (wrong != 0) {
            System.exit(1);
        }
    }

    // ---- what is there ahead of a call

    // THINGS 0 .. 2 of kinds 0 .. 2, places 0 .. 2; SHEET 0 bytes, 1 shorts, 2 ints, 3 has nothing.
    private static WellBack made(int from) {
        WellBack w = new WellBack();
        if (from != NOTHING) {
            String text = "g3012;t2011;l4120;r1042";
            w.sheet(3, 0, text.length());
            for (int i = 0; i < text.length(); i++) {
                w.put(3, i, text.charAt(i));
            }
            w.well(3, 0, 0, text.length());
            w.lose(3);
            w.dig(4);
            w.weigh(1, 5);
            w.hire(1, 4);
            w.reading(0, 3, 2);
            w.reading(2, 0, WellBack.NONE);
            w.tell(2);
        }
        for (int k = 0; from == EIGHT_READINGS && k < 6; k++) {
            w.reading(k % 3, k, k % 5);
        }
        row(w, 0, 0, 5, -6, 23);
        row(w, 1, 1, 0, 23, 24, -1);
        row(w, 2, 2, 103, 48, 49, 1000);
        return w;
    }

    private static void row(WellBack w, int sheet, int lane, int... cells) {
        w.sheet(sheet, lane, cells.length);
        for (int i = 0; i < cells.length; i++) {
            w.put(sheet, i, cells[i]);
        }
    }

    // All that can be asked of an object, but fault(), which asking for cells tells anew.
    private static String state(WellBack w) {
        StringBuilder s = new StringBuilder();
        for (int what = 0; what < 4; what++) {
            s.append(w.many(what)).append(' ');
        }
        for (int x = 0; x < 5; x++) {
            for (int what = 0; what < 5; what++) {
                s.append(w.ofThing(x, what)).append(' ');
            }
        }
        for (int hour = 0; hour < 6; hour++) {
            s.append(w.draws(hour)).append(' ');
        }
        for (int x = 0; x < 3; x++) {
            s.append(w.weights(x)).append(' ').append(w.kinds(x)).append(' ');
        }
        s.append(w.depths()).append(' ').append(w.trace());
        for (int k = 0; k < 4; k++) {
            s.append(" [").append(rowOf(w, k)).append(']');
        }
        return s.toString();
    }

    private static String rowOf(WellBack w, int k) {
        StringBuilder s = new StringBuilder();
        for (int lane = 0; lane < 3; lane++) {
            long first = w.cell(k, 0, lane);
            int fault = w.fault();
            if (fault == 1) {
                return "nothing";
            }
            if (fault == 2) {
                continue;
            }
            s.append("lane ").append(lane);
            for (int i = 0; first != WellBack.LOST && i < 61 && w.cell(k, i, lane) != WellBack.LOST; i++) {
                s.append(' ').append(w.cell(k, i, lane));
            }
        }
        return s.toString();
    }

    // ---- the looking

    private static void due(String call, Object got, Object want) {
        if (!got.equals(want)) {
            wrong++;
            System.out.println(call + " answered " + got + ", due is " + want);
        }
    }

    private static void leavesAll(String call, int from, Call of, int[] a, long want, int faultAhead, int fault) {
        WellBack w = made(from);
        String before = state(w);
        if (faultAhead == 3) {
            w.put(0, 9, 0);
        } else {
            w.sheet(0, 0, -1);
        }
        String name = call + Arrays.toString(a);
        due(name, of.of(w, a), want);
        due("fault() behind " + name, w.fault(), fault);
        due("all there is behind " + name, state(w), before);
    }

    // Rows of arguments; behind them what is answered.
    private static void namesNoFaults(String call, int from, Call of, int[]... rows) {
        for (int[] row : rows) {
            int want = row[row.length - 1];
            leavesAll(call, from, of, row, want, 3, 3);
            leavesAll(call, from, of, row, want, 4, 4);
        }
    }

    // What fault() tells ahead is not what it is to tell behind: it is told anew.
    private static void toldAnew(String call, int from, Call of, int[] row, long want, int fault) {
        leavesAll(call, from, of, row, want, fault == 4 ? 3 : 4, fault);
    }

    private static void namesFaults(String call, int from, Call of, int[]... rows) {
        for (int[] row : rows) {
            int want = row[row.length - 1];
            toldAnew(call, from, of, row, want, want <= -11 && want >= -14 ? -10 - want : 0);
        }
    }

    private static int[] a(int... numbers) {
        return numbers;
    }

    // ---- 1 the well

    private static void well() {
        Call of = (w, a) -> w.well(a[0], a[1], a[2], a[3]);
        for (int from : new int[] {NOTHING, A_WELL}) {
            namesFaults("well", from, of,
                a(-1, 0, 0, 0, UNKNOWN), a(4, 0, 0, 0, UNKNOWN), a(LOW, 0, 0, 0, UNKNOWN), a(HIGH, 0, 0, 0, UNKNOWN),
                a(0, -1, 0, 0, OUTSIDE), a(0, 3, 0, 0, OUTSIDE), a(0, LOW, 0, 0, OUTSIDE), a(0, HIGH, 0, 0, OUTSIDE),
                a(3, 0, 0, 0, NULL), a(3, 1, 0, 0, NULL), a(3, 2, 0, 0, NULL),
                a(0, 1, 0, 0, CAST), a(0, 2, 0, 0, CAST), a(1, 0, 0, 0, CAST), a(1, 2, 0, 0, CAST),
                a(2, 0, 0, 0, CAST), a(2, 1, 0, 0, CAST),
                a(0, 0, 0, -1, SIZE), a(0, 0, 0, LOW, SIZE),
                a(0, 0, -1, 0, INDEX), a(0, 0, 4, 0, INDEX), a(0, 0, -1, 1, INDEX), a(0, 0, 0, 4, INDEX),
                a(0, 0, 1, 3, INDEX), a(0, 0, 2, 2, INDEX), a(0, 0, 3, 1, INDEX), a(0, 0, LOW, 0, INDEX),
                a(0, 0, HIGH, 0, INDEX), a(0, 0, 1, HIGH, INDEX), a(0, 0, HIGH, HIGH, INDEX), a(0, 0, LOW, HIGH, INDEX),
                a(0, 0, -1, 4, INDEX), a(2, 2, 0, 5, INDEX), a(1, 1, 0, 5, INDEX),
                // In the order told.
                a(4, 3, -1, -1, UNKNOWN), a(3, 3, -1, -1, OUTSIDE), a(0, 3, -1, -1, OUTSIDE), a(3, 0, -1, -1, NULL),
                a(0, 1, -1, -1, CAST), a(0, 0, -1, -1, SIZE), a(0, 0, 4, -1, SIZE), a(2, 2, -1, 3, INDEX),
                // A TEXT that is not taken.
                a(0, 0, 0, 0, -100), a(0, 0, 3, 0, -100), a(0, 0, 0, 3, -100), a(2, 2, 0, 1, -101),
                a(2, 2, 0, 2, -102), a(2, 2, 0, 3, -103), a(2, 2, 0, 4, -103), a(2, 2, 1, 3, -100));
        }
    }

    private static void ofThing() {
        Call of = (w, a) -> w.ofThing(a[0], a[1]);
        namesNoFaults("ofThing", A_WELL, of,
            a(-1, 0, UNKNOWN), a(3, 0, UNKNOWN), a(4, 5, UNKNOWN), a(5, 0, UNKNOWN), a(LOW, 0, UNKNOWN),
            a(HIGH, 0, UNKNOWN), a(0, -1, OUTSIDE), a(2, 6, OUTSIDE), a(0, LOW, OUTSIDE), a(0, HIGH, OUTSIDE),
            a(3, 6, UNKNOWN), a(-1, -1, UNKNOWN));
        namesNoFaults("ofThing", NOTHING, of, a(0, 0, UNKNOWN), a(0, 6, UNKNOWN));
    }

    private static void draws() {
        Call of = (w, a) -> w.draws(a[0]);
        namesNoFaults("draws", A_WELL, of,
            a(-1, OUTSIDE), a(100, OUTSIDE), a(LOW, OUTSIDE), a(HIGH, OUTSIDE));
        namesNoFaults("draws", NOTHING, of, a(0, STATE), a(99, STATE), a(-1, STATE), a(100, STATE));
    }

    private static void weigh() {
        Call of = (w, a) -> w.weigh(a[0], a[1]);
        namesNoFaults("weigh", A_WELL, of,
            a(-1, 0, UNKNOWN), a(3, 0, UNKNOWN), a(5, 0, UNKNOWN), a(LOW, 9, UNKNOWN), a(HIGH, 9, UNKNOWN),
            a(0, -1, OUTSIDE), a(0, 10, OUTSIDE), a(2, LOW, OUTSIDE), a(2, HIGH, OUTSIDE),
            a(3, 10, UNKNOWN), a(-1, -1, UNKNOWN));
        namesNoFaults("weigh", NOTHING, of, a(0, 0, UNKNOWN), a(0, 10, UNKNOWN));
    }

    private static void dig() {
        Call of = (w, a) -> w.dig(a[0]);
        namesNoFaults("dig", A_WELL, of,
            a(-1, OUTSIDE), a(10, OUTSIDE), a(LOW, OUTSIDE), a(HIGH, OUTSIDE));
        namesNoFaults("dig", NOTHING, of,
            a(-1, OUTSIDE), a(10, OUTSIDE), a(0, STATE), a(9, STATE));
    }

    private static void hire() {
        Call of = (w, a) -> w.hire(a[0], a[1]);
        namesNoFaults("hire", A_WELL, of,
            a(-1, 0, UNKNOWN), a(3, 0, UNKNOWN), a(5, 0, UNKNOWN), a(6, 0, UNKNOWN), a(LOW, 0, UNKNOWN),
            a(HIGH, 0, UNKNOWN), a(0, -1, UNKNOWN), a(0, 5, UNKNOWN), a(2, -9, UNKNOWN), a(2, LOW, UNKNOWN),
            a(2, HIGH, UNKNOWN), a(3, 5, UNKNOWN));
        namesNoFaults("hire", NOTHING, of, a(0, 0, UNKNOWN), a(0, 5, UNKNOWN));
    }

    // ---- 2 what comes up

    private static void drop() {
        Call of = (w, a) -> w.drop(a[0], a[1], a[2], a[3]);
        namesNoFaults("drop", A_WELL, of,
            a(-1, 0, 0, 0, UNKNOWN), a(3, 0, 0, 0, UNKNOWN), a(5, 0, 0, 0, UNKNOWN), a(LOW, 0, 0, 0, UNKNOWN),
            a(HIGH, 0, 0, 0, UNKNOWN), a(0, -1, 0, 0, UNKNOWN), a(0, 5, 0, 0, UNKNOWN), a(0, -9, 0, 0, UNKNOWN),
            a(0, LOW, 0, 0, UNKNOWN), a(0, HIGH, 0, 0, UNKNOWN),
            a(0, 0, -1, 0, OUTSIDE), a(0, 0, 100, 0, OUTSIDE), a(0, 0, LOW, 0, OUTSIDE), a(0, 0, HIGH, 0, OUTSIDE),
            a(0, 0, 0, -1, OUTSIDE), a(0, 0, 0, 3, OUTSIDE), a(0, 0, 99, LOW, OUTSIDE), a(0, 0, 99, HIGH, OUTSIDE),
            a(3, 0, 100, 0, UNKNOWN), a(3, 0, 0, 3, UNKNOWN), a(0, 5, 100, 3, UNKNOWN), a(0, 5, 0, 3, UNKNOWN));
        namesNoFaults("drop", NOTHING, of, a(0, 0, 0, 0, UNKNOWN), a(0, 0, 100, 3, UNKNOWN));
    }

    private static void hands() {
        Call of = (w, a) -> w.hands(a[0], a[1]);
        namesNoFaults("hands", A_WELL, of,
            a(-1, 0, UNKNOWN), a(3, 0, UNKNOWN), a(5, 0, UNKNOWN), a(LOW, 0, UNKNOWN), a(HIGH, 0, UNKNOWN),
            a(0, -1, OUTSIDE), a(0, 31, OUTSIDE), a(2, LOW, OUTSIDE), a(2, HIGH, OUTSIDE),
            a(3, 31, UNKNOWN), a(-1, -1, UNKNOWN));
        namesNoFaults("hands", NOTHING, of, a(0, 0, UNKNOWN), a(0, 31, UNKNOWN));
    }

    private static void ofNoThing(String call, Call of) {
        namesNoFaults(call, A_WELL, of,
            a(-1, UNKNOWN), a(3, UNKNOWN), a(4, UNKNOWN), a(5, UNKNOWN), a(LOW, UNKNOWN), a(HIGH, UNKNOWN));
        namesNoFaults(call, NOTHING, of, a(0, UNKNOWN), a(-1, UNKNOWN));
    }

    private static void home() {
        ofNoThing("home", (w, a) -> w.home(a[0]));
    }

    private static void meets() {
        ofNoThing("meets", (w, a) -> w.meets(a[0]));
    }

    private static void hours() {
        Call of = (w, a) -> w.hours(a[0], a[1], a[2], a[3], a[4]);
        for (int from : new int[] {NOTHING, A_WELL}) {
            namesFaults("hours", from, of,
                a(-1, 0, 0, 3, 0, UNKNOWN), a(4, 0, 0, 3, 0, UNKNOWN), a(LOW, 0, 0, 3, 0, UNKNOWN),
                a(HIGH, 0, 0, 3, 0, UNKNOWN),
                a(0, -1, 0, 3, 0, OUTSIDE), a(0, 3, 0, 3, 0, OUTSIDE), a(0, LOW, 0, 3, 0, OUTSIDE),
                a(0, HIGH, 0, 3, 0, OUTSIDE),
                a(0, 0, 0, 3, -1, OUTSIDE), a(0, 0, 0, 3, 3, OUTSIDE), a(0, 0, 0, 3, 9, OUTSIDE),
                a(0, 0, 0, 3, 15, OUTSIDE), a(0, 0, 0, 3, LOW, OUTSIDE), a(0, 0, 0, 3, HIGH, OUTSIDE),
                a(3, 0, 0, 3, 0, NULL), a(3, 1, 0, 0, 14, NULL), a(3, 2, 0, 0, 2, NULL),
                a(0, 1, 0, 3, 0, CAST), a(0, 2, 0, 3, 0, CAST), a(1, 0, 0, 3, 0, CAST), a(1, 2, 0, 3, 0, CAST),
                a(2, 0, 0, 3, 0, CAST), a(2, 1, 0, 3, 0, CAST),
                a(0, 0, 0, -1, 0, SIZE), a(0, 0, 0, LOW, 0, SIZE),
                a(0, 0, -1, 3, 0, INDEX), a(0, 0, 1, 3, 0, INDEX), a(0, 0, 0, 4, 0, INDEX), a(1, 1, 2, 3, 0, INDEX),
                a(0, 0, -1, 0, 0, INDEX), a(0, 0, 4, 0, 0, INDEX), a(0, 0, LOW, 0, 0, INDEX),
                a(0, 0, HIGH, 0, 0, INDEX), a(0, 0, 1, HIGH, 0, INDEX), a(0, 0, HIGH, HIGH, 0, INDEX),
                // In the order told.
                a(4, 3, -1, -1, 3, UNKNOWN), a(3, 3, 0, 3, 0, OUTSIDE), a(3, 0, 0, 3, 3, OUTSIDE),
                a(0, 1, 0, 3, 9, OUTSIDE), a(3, 0, -1, -1, 0, NULL), a(0, 1, -1, -1, 0, CAST),
                a(0, 0, -1, -1, 0, SIZE), a(0, 0, 4, -1, 10, SIZE));
        }
    }

    private static void hoursThatAreNone() {
        Call of = (w, a) -> w.hours(a[0], a[1], a[2], a[3], a[4]);
        // Cells -6, 24 and -1 are no HOURS; without a WELL that is not come to, and so n is not.
        namesFaults("hours", NOTHING, of,
            a(0, 0, 0, 3, 0, STATE), a(0, 0, 0, 0, 0, STATE), a(0, 0, 3, 0, 14, STATE), a(1, 1, 0, 4, 1, STATE));
        namesFaults("hours", A_WELL, of,
            a(1, 1, 0, 2, 0, OUTSIDE), a(1, 1, 0, 4, 0, OUTSIDE), a(1, 1, 0, 0, 0, OUTSIDE), a(1, 1, 4, 0, 0, OUTSIDE),
            a(0, 0, 3, 0, 0, OUTSIDE), a(1, 1, 0, 1, 10, OUTSIDE),
            a(0, 0, 0, 3, 0, OUTSIDE), a(1, 1, 0, 3, 0, OUTSIDE), a(1, 1, 1, 3, 1, OUTSIDE), a(1, 1, 0, 3, 2, OUTSIDE),
            a(1, 1, 0, 3, 10, OUTSIDE), a(1, 1, 0, 3, 14, OUTSIDE), a(2, 2, 0, 3, 0, OUTSIDE));
    }

    // ---- 3 when, the rota

    private static void when() {
        Call of = (w, a) -> w.when(a[0], a[1]);
        namesNoFaults("when", A_WELL, of,
            a(-1, 0, UNKNOWN), a(3, 0, UNKNOWN), a(5, 0, UNKNOWN), a(LOW, 0, UNKNOWN), a(HIGH, 0, UNKNOWN),
            a(0, -1, UNKNOWN), a(0, 5, UNKNOWN), a(2, -9, UNKNOWN), a(2, LOW, UNKNOWN), a(2, HIGH, UNKNOWN),
            a(3, 5, UNKNOWN));
        namesNoFaults("when", NOTHING, of, a(0, 0, UNKNOWN));
    }

    private static void best() {
        Call of = (w, a) -> w.best(a[0]);
        namesNoFaults("best", A_WELL, of,
            a(-2, OUTSIDE), a(6, OUTSIDE), a(-9, OUTSIDE), a(LOW, OUTSIDE), a(HIGH, OUTSIDE),
            a(3, WellBack.NONE), a(5, WellBack.NONE));
        namesNoFaults("best", NOTHING, of,
            a(-1, STATE), a(0, STATE), a(5, STATE), a(-2, STATE), a(6, STATE));
    }

    // ---- 4 who drew what

    private static void reading() {
        Call of = (w, a) -> w.reading(a[0], a[1], a[2]);
        int[][] refused = {
            a(-1, 0, 0, UNKNOWN), a(3, 0, 0, UNKNOWN), a(5, 0, 0, UNKNOWN), a(LOW, 0, 0, UNKNOWN),
            a(HIGH, 0, 0, UNKNOWN), a(0, 0, -1, UNKNOWN), a(0, 0, 5, UNKNOWN), a(0, 0, -8, UNKNOWN),
            a(0, 0, -10, UNKNOWN), a(0, 0, LOW, UNKNOWN), a(0, 0, HIGH, UNKNOWN),
            a(0, -1, 0, OUTSIDE), a(0, 24, 0, OUTSIDE), a(2, LOW, -9, OUTSIDE), a(2, HIGH, -9, OUTSIDE),
            a(3, 24, 0, UNKNOWN), a(0, 24, 5, UNKNOWN),
        };
        namesNoFaults("reading", A_WELL, of, refused);
        namesNoFaults("reading", EIGHT_READINGS, of, refused);
        namesNoFaults("reading", EIGHT_READINGS, of, a(0, 0, 0, FULL), a(2, 23, -9, FULL), a(0, 23, 4, FULL));
        namesNoFaults("reading", NOTHING, of, a(0, 0, 0, UNKNOWN), a(0, 24, -9, UNKNOWN));
    }

    private static void back() {
        Call of = (w, a) -> w.back(a[0]);
        namesNoFaults("back", A_WELL, of,
            a(-1, OUTSIDE), a(3, OUTSIDE), a(8, OUTSIDE), a(LOW, OUTSIDE), a(HIGH, OUTSIDE), a(0, 2));
        namesNoFaults("back", EIGHT_READINGS, of, a(-1, OUTSIDE), a(9, OUTSIDE), a(0, 8));
        namesNoFaults("back", NOTHING, of, a(-1, OUTSIDE), a(1, OUTSIDE), a(0, 0));
    }

    private static void weights() {
        ofNoThing("weights", (w, a) -> w.weights(a[0]));
    }

    private static void kinds() {
        ofNoThing("kinds", (w, a) -> w.kinds(a[0]));
    }

    private static void depths() {
        namesNoFaults("depths", NOTHING, (w, a) -> w.depths(), a(STATE));
    }

    private static void odds() {
        // LOST is told as 1, the rest as 0: rows hold ints.
        Call of = (w, a) -> w.odds(a[0], a[1]) == Long.MIN_VALUE ? 1 : 0;
        namesNoFaults("odds is LOST", A_WELL, of,
            a(-1, 0, 1), a(3, 0, 1), a(5, 1, 1), a(LOW, 0, 1), a(HIGH, 0, 1), a(0, -1, 1), a(0, 2, 1), a(2, LOW, 1),
            a(2, HIGH, 1), a(3, 2, 1), a(0, 0, 0), a(2, 1, 0));
        namesNoFaults("odds is LOST", NOTHING, of, a(0, 0, 1), a(0, 1, 1), a(0, 2, 1));
    }

    // ---- 5 sheets, parts

    private static void sheet() {
        Call of = (w, a) -> w.sheet(a[0], a[1], a[2]);
        for (int from : new int[] {NOTHING, A_WELL}) {
            namesFaults("sheet", from, of,
                a(-1, 0, 0, UNKNOWN), a(4, 0, 0, UNKNOWN), a(LOW, 0, 0, UNKNOWN), a(HIGH, 0, 0, UNKNOWN),
                a(0, -1, 0, OUTSIDE), a(0, 3, 0, OUTSIDE), a(0, LOW, 0, OUTSIDE), a(0, HIGH, 0, OUTSIDE),
                a(0, 0, 61, OUTSIDE), a(3, 2, 61, OUTSIDE), a(0, 0, HIGH, OUTSIDE),
                a(0, 0, -1, SIZE), a(3, 2, -1, SIZE), a(1, 2, LOW, SIZE),
                a(4, 3, 61, UNKNOWN), a(4, 0, -1, UNKNOWN), a(0, 3, -1, OUTSIDE), a(3, -1, 61, OUTSIDE));
        }
    }

    private static void lose() {
        Call of = (w, a) -> w.lose(a[0]);
        for (int from : new int[] {NOTHING, A_WELL}) {
            namesNoFaults("lose", from, of,
                a(-1, UNKNOWN), a(4, UNKNOWN), a(LOW, UNKNOWN), a(HIGH, UNKNOWN), a(3, 0));
        }
    }

    private static void put() {
        Call of = (w, a) -> w.put(a[0], a[1], a[2]);
        namesFaults("put", A_WELL, of,
            a(-1, 0, 1, UNKNOWN), a(4, 0, 1, UNKNOWN), a(LOW, 0, 1, UNKNOWN), a(HIGH, 0, 1, UNKNOWN),
            a(3, 0, 1, NULL), a(3, 59, 1, NULL),
            a(0, -1, 1, INDEX), a(0, 3, 1, INDEX), a(0, 59, 1, INDEX), a(0, 60, 1, INDEX), a(2, 4, 1, INDEX),
            a(1, LOW, 1, INDEX), a(1, HIGH, 1, INDEX),
            a(4, -1, 1, UNKNOWN), a(3, -1, 1, NULL), a(3, 60, 1, NULL));
    }

    private static void cell() {
        Call of = (w, a) -> w.cell(a[0], a[1], a[2]);
        // Behind the arguments: the FAULT, 0 of a refusal.
        int[][] rows = {
            a(-1, 0, 0, 0), a(4, 0, 0, 0), a(LOW, 0, 0, 0), a(HIGH, 0, 0, 0), a(0, 0, -1, 0), a(0, 0, 3, 0),
            a(0, 0, LOW, 0), a(0, 0, HIGH, 0),
            a(0, 0, 1, 2), a(0, 0, 2, 2), a(1, 0, 0, 2), a(1, 0, 2, 2), a(2, 0, 0, 2), a(2, 0, 1, 2),
            a(3, 0, 0, 1), a(3, 0, 1, 1), a(3, 0, 2, 1),
            a(0, -1, 0, 3), a(0, 3, 0, 3), a(2, 4, 2, 3), a(0, 59, 0, 3), a(0, 60, 0, 3), a(0, LOW, 0, 3),
            a(0, HIGH, 0, 3),
            a(4, -1, 3, 0), a(3, -1, 3, 0), a(0, 3, 3, 0), a(0, 3, 1, 2), a(3, -1, 0, 1), a(3, 60, 2, 1),
        };
        for (int[] row : rows) {
            toldAnew("cell", A_WELL, of, row, WellBack.LOST, row[3]);
        }
    }

    private static void copy() {
        Call of = (w, a) -> w.copy(a[0], a[1], a[2], a[3], a[4]);
        namesFaults("copy", A_WELL, of,
            a(-1, 0, 0, 0, 1, UNKNOWN), a(4, 0, 0, 0, 1, UNKNOWN), a(0, 0, -1, 0, 1, UNKNOWN),
            a(0, 0, 4, 0, 1, UNKNOWN), a(LOW, 0, HIGH, 0, 1, UNKNOWN),
            a(3, 0, 0, 0, 1, NULL), a(0, 0, 3, 0, 1, NULL), a(3, 0, 3, 0, 0, NULL),
            a(0, 0, 1, 0, 1, CAST), a(0, 0, 2, 0, 1, CAST), a(1, 0, 0, 0, 1, CAST), a(1, 0, 2, 0, 1, CAST),
            a(2, 0, 0, 0, 1, CAST), a(2, 0, 1, 0, 0, CAST),
            a(0, -1, 0, 0, 1, INDEX), a(0, 0, 0, -1, 1, INDEX), a(0, 0, 0, 0, -1, INDEX), a(0, 3, 0, 0, 1, INDEX),
            a(0, 0, 0, 3, 1, INDEX), a(0, 0, 0, 0, 4, INDEX), a(0, 1, 0, 0, 3, INDEX), a(0, 0, 0, 1, 3, INDEX),
            a(0, -1, 0, 0, 0, INDEX), a(0, 0, 0, -1, 0, INDEX), a(0, 4, 0, 0, 0, INDEX), a(0, 0, 0, 4, 0, INDEX),
            a(0, LOW, 0, 0, 1, INDEX), a(0, 0, 0, LOW, 1, INDEX), a(0, 0, 0, 0, LOW, INDEX), a(0, 1, 0, 0, HIGH, INDEX),
            a(0, 0, 0, 1, HIGH, INDEX), a(0, HIGH, 0, HIGH, HIGH, INDEX), a(0, HIGH, 0, 0, 1, INDEX),
            a(0, 0, 0, HIGH, 1, INDEX), a(0, -1, 0, 0, 2, INDEX),
            // In the order told.
            a(4, 0, 3, 0, 1, UNKNOWN), a(3, 0, 4, 0, 1, UNKNOWN), a(3, -1, 0, 0, -1, NULL), a(0, -1, 3, 0, -1, NULL),
            a(0, -1, 1, 0, 0, CAST), a(0, 0, 1, 0, -1, CAST), a(0, 0, 2, 0, 5, CAST),
            // None, at the ends.
            a(0, 0, 0, 0, 0, 0), a(0, 3, 0, 3, 0, 0), a(0, 3, 0, 0, 0, 0), a(0, 0, 0, 3, 0, 0),
            // Onto itself.
            a(0, 0, 0, 0, 3, 3), a(2, 1, 2, 1, 3, 3));
    }

    private static void tell() {
        ofNoThing("tell", (w, a) -> w.tell(a[0]));
    }

    private static void splash() {
        ofNoThing("splash", (w, a) -> w.splash(a[0]));
    }

    private static void as() {
        Call of = (w, a) -> w.as(a[0], a[1]);
        namesFaults("as", A_WELL, of,
            a(-1, 0, UNKNOWN), a(3, 0, UNKNOWN), a(5, 0, UNKNOWN), a(LOW, 0, UNKNOWN), a(HIGH, 0, UNKNOWN),
            a(0, -1, OUTSIDE), a(2, 3, OUTSIDE), a(0, LOW, OUTSIDE), a(2, HIGH, OUTSIDE),
            a(0, 1, CAST), a(0, 2, CAST), a(1, 2, CAST),
            a(3, 3, UNKNOWN), a(-1, -1, UNKNOWN), a(0, 3, OUTSIDE),
            a(0, 0, 1), a(1, 0, 1), a(1, 1, 1), a(2, 0, 1), a(2, 1, 1), a(2, 2, 1));
        namesFaults("as", NOTHING, of, a(0, 0, UNKNOWN), a(0, 3, UNKNOWN));
    }

    private static void many() {
        namesNoFaults("many", A_WELL, (w, a) -> w.many(a[0]),
            a(-1, OUTSIDE), a(4, OUTSIDE), a(LOW, OUTSIDE), a(HIGH, OUTSIDE), a(0, 3), a(1, 3), a(2, 4), a(3, 2));
    }

    // Calls that only ask, each with what they answer here: all stays as it was, fault() too.
    private static void askingChangesNothing() {
        // DEPTH 4, drawn by 0 4 2; DELAYS 6 (THING 0: from 0 to 1), 8 (1: from 1 to 2 in 0), 10 (2: from 0 to 4 in 2).
        // BEST is the ROTA itself: 1 is up in 8 by 2; 2 in 12 by 0 and sinks, in 22 by 4.
        namesNoFaults("ofThing", A_WELL, (w, a) -> w.ofThing(a[0], a[1]), a(0, 5, 6), a(1, 5, 8), a(2, 5, 10));
        namesNoFaults("draws", A_WELL, (w, a) -> w.draws(a[0]), a(0, 0), a(99, 0), a(98, 2));
        namesNoFaults("drop", A_WELL, (w, a) -> w.drop(a[0], a[1], a[2], a[3]), a(0, 1, 2, 0, 2), a(0, 0, 0, 1, -9));
        namesNoFaults("hands", A_WELL, (w, a) -> w.hands(a[0], a[1]), a(2, 0, 0), a(2, 30, 0));
        namesNoFaults("home", A_WELL, (w, a) -> w.home(a[0]), a(2, 3), a(1, -9));
        namesNoFaults("meets", A_WELL, (w, a) -> w.meets(a[0]), a(2, 21));
        namesNoFaults("when", A_WELL, (w, a) -> w.when(a[0], a[1]), a(2, 4, 0), a(2, 2, 1), a(2, 0, -9));
        namesNoFaults("best", A_WELL, (w, a) -> w.best(a[0]), a(-1, 2), a(0, 0), a(1, 4), a(2, 2));
        namesNoFaults("fault", A_WELL, (w, a) -> w.fault() - w.fault(), a(0));
        namesNoFaults("trace", A_WELL, (w, a) -> w.trace() - w.trace(), a(0));
    }
}
