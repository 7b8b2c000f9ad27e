// Each promise by answers worked out by hand: ordinary inputs, the edges that the document names, wrong inputs.
public final class PromisesTest {
    private static final int LOW = Integer.MIN_VALUE, HIGH = Integer.MAX_VALUE;
    private static final int FAULT_NULL = -11, FAULT_CAST = -12, FAULT_INDEX = -13, FAULT_SIZE = -14;

    // DEPTH 3, the HOURS drawn by 0 1 2 0 1 2 ..: DELAYS 5 (THING), 6 (LETTER), 8 (RING), 3 (THING).
    private static final String FOUR = "g3012;t2011;l4120;r1042;t0233";

    private static int promise = 0;
    private static int wrong = 0;

    public static void main(String[] args) {
        promise = 1;
        newObject();
        promise = 2;
        textsTaken();
        textsRefused();
        textsInLanes();
        textsFaults();
        textsMakeAnew();
        promise = 3;
        ofThings();
        promise = 4;
        draws();
        promise = 5;
        weigh();
        promise = 6;
        dig();
        promise = 7;
        hire();
        promise = 8;
        drop();
        promise = 9;
        hands();
        promise = 10;
        home();
        promise = 11;
        meets();
        promise = 12;
        hoursTold();
        hoursRefused();
        promise = 13;
        when();
        promise = 14;
        best();
        promise = 15;
        reading();
        promise = 16;
        back();
        promise = 17;
        weights();
        promise = 18;
        kinds();
        promise = 19;
        depths();
        promise = 20;
        odds();
        promise = 21;
        sheet();
        promise = 22;
        lose();
        promise = 23;
        put();
        promise = 24;
        cell();
        promise = 25;
        copy();
        promise = 26;
        tell();
        promise = 27;
        splash();
        promise = 28;
        as();
        promise = 29;
        trace();
        promise = 30;
        fault();
        promise = 31;
        many();
        System.out.println(wrong == 0 ? "PromisesTest: all as due" : "PromisesTest: " + wrong + " not as due");
        if (wrong != 0) {
            System.exit(1);
        }
    }

    private static void due(String call, long got, long want) {
        if (got != want) {
            wrong++;
            System.out.println("promise " + promise + ": " + call + " answered " + got + ", due is " + want);
        }
    }

    private static void row(WellBack w, int sheet, int lane, int... cells) {
        due("sheet", w.sheet(sheet, lane, cells.length), 1);
        for (int i = 0; i < cells.length; i++) {
            due("put", w.put(sheet, i, cells[i]), 1);
        }
    }

    private static int text(WellBack w, String text) {
        int[] codes = new int[text.length()];
        for (int i = 0; i < codes.length; i++) {
            codes[i] = text.charAt(i);
        }
        row(w, 0, 2, codes);
        return w.well(0, 2, 0, codes.length);
    }

    private static WellBack by(String text) {
        WellBack w = new WellBack();
        if (text(w, text) < 1) {
            wrong++;
            System.out.println("promise " + promise + ": the text " + text + " was not taken");
        }
        return w;
    }

    private static int set(int... numbers) {
        int bits = 0;
        for (int k : numbers) {
            bits |= 1 << k;
        }
        return bits;
    }

    private static void newObject() {
        WellBack w = new WellBack();
        for (int what = 0; what < 4; what++) {
            due("many", w.many(what), 0);
        }
        for (int k = 0; k < 4; k++) {
            due("lose", w.lose(k), 0);
            due("put", w.put(k, 0, 1), FAULT_NULL);
        }
        due("trace", new WellBack().trace(), 0);
        due("fault", new WellBack().fault(), 0);
        due("draws", w.draws(0), WellBack.STATE);
        due("UNKNOWN", WellBack.UNKNOWN, -1);
        due("OUTSIDE", WellBack.OUTSIDE, -2);
        due("STATE", WellBack.STATE, -3);
        due("FULL", WellBack.FULL, -4);
        due("NONE", WellBack.NONE, -9);
        due("LOST", WellBack.LOST, Long.MIN_VALUE);
    }

    private static void textsTaken() {
        WellBack w = new WellBack();
        due("least", text(w, "g00;t0000"), 1);
        due("longest ROTA", text(w, "g9012344;r9449"), 1);
        due("most THINGS", text(w, "g5012340;t0000;l1111;r2222;t3333;l9449"), 5);
        due("many", w.many(0), 5);
        due("many", w.many(1), 6);
        due("many", w.many(2), 5);
        due("four", text(w, FOUR), 4);
    }

    private static void textsRefused() {
        String[] texts = {
            "", "x", "G", "g", "ga", "g/", "g:", "g0", "g05", "g0;", "g0/", "g00", "g005", "g00:", "g0012340",
            "g00123400", "g00123405", "g00;", "g00;x", "g00;T", "g00;;", "g00;t", "g00;ta", "g00;t9", "g00;t95",
            "g00;t94", "g00;t945", "g00;t944", "g00;t944:", "g00;t9449x", "g00;t94490", "g00;t9449;",
            "g00;t9449;l", "g0012344;t0000x", "g00;t0000;t0000;t0000;t0000;t0000;",
            "g00;t0000;t0000;t0000;t0000;t0000;t0000", "g00;t0000;t0000;t0000;t0000;t0000t", "g00;t0000;t0000;t0000;t000",
        };
        int[] faults = {
            0, 0, 0, 1, 1, 1, 1, 2, 2, 2, 2, 3, 3, 3, 8,
            8, 8, 4, 4, 4, 4, 5, 5, 6, 6,
            7, 7, 8, 8, 9, 9, 10,
            11, 14, 33,
            33, 33, 26,
        };
        WellBack w = by(FOUR);
        for (int k = 0; k < texts.length; k++) {
            // A new object now and then: one is used for 512 calls at most.
            if (k % 4 == 0) {
                w = by(FOUR);
            }
            due("well of " + texts[k], text(w, texts[k]), -100 - faults[k]);
            due("fault", w.fault(), 0);
            due("THINGS stay", w.many(0), 4);
            due("DEPTH stays", w.many(2), 3);
        }
    }

    private static void textsInLanes() {
        WellBack w = new WellBack();
        for (int lane = 0; lane < 3; lane++) {
            row(w, lane, lane, 7, 'g', '1', '2', ';', 'l', '3', '4', '0', '5', 7);
            due("cells behind the first", w.well(lane, lane, 1, 9), 1);
            due("weight", w.ofThing(0, 1), 3);
            due("one too many", w.well(lane, lane, 1, 10), -109);
            due("one too few", w.well(lane, lane, 1, 8), -108);
            due("one too early", w.well(lane, lane, 0, 9), -100);
        }
        row(w, 0, 0, 'g' + 256, '1', '2', ';', 'l', '3', '4', '0', '5');
        due("bytes are cut", w.well(0, 0, 0, 9), 1);
        row(w, 0, 1, 'g' + 256, '1', '2', ';', 'l', '3', '4', '0', '5');
        due("shorts are cut at 16", w.well(0, 1, 0, 9), -100);
        row(w, 0, 1, 'g' + 65536, '1', '2', ';', 'l', '3', '4', '0', '5');
        due("shorts are cut", w.well(0, 1, 0, 9), 1);
        row(w, 0, 2, 'g' + 65536, '1', '2', ';', 'l', '3', '4', '0', '5');
        due("ints are not cut", w.well(0, 2, 0, 9), -100);
        row(w, 0, 2, 'g', LOW, '2');
        due("no digit", w.well(0, 2, 0, 3), -101);
        row(w, 0, 2, 'g', '0', HIGH);
        due("no digit", w.well(0, 2, 0, 3), -102);
        row(w, 0, 2, 'g', '0', '0', -1);
        due("no code", w.well(0, 2, 0, 4), -103);
    }

    private static void textsFaults() {
        WellBack w = new WellBack();
        due("SHEET first", w.well(4, 3, -1, -1), WellBack.UNKNOWN);
        due("SHEET", w.well(-1, 0, 0, 0), WellBack.UNKNOWN);
        due("lane ahead of NULL", w.well(0, 3, 0, 0), WellBack.OUTSIDE);
        due("lane", w.well(0, -1, 0, 0), WellBack.OUTSIDE);
        due("fault", w.fault(), 0);
        due("NULL ahead of SIZE", w.well(0, 0, -1, -1), FAULT_NULL);
        due("fault", w.fault(), 1);
        row(w, 0, 0, 'g', '0', '0');
        due("CAST ahead of SIZE", w.well(0, 1, -1, -1), FAULT_CAST);
        due("fault", w.fault(), 2);
        due("SIZE ahead of INDEX", w.well(0, 0, 9, -1), FAULT_SIZE);
        due("fault", w.fault(), 4);
        due("INDEX", w.well(0, 0, -1, 0), FAULT_INDEX);
        due("fault", w.fault(), 3);
        due("INDEX", w.well(0, 0, 4, 0), FAULT_INDEX);
        due("INDEX", w.well(0, 0, 0, 4), FAULT_INDEX);
        due("INDEX", w.well(0, 0, 1, HIGH), FAULT_INDEX);
        due("INDEX", w.well(0, 0, HIGH, HIGH), FAULT_INDEX);
        due("INDEX", w.well(0, 0, LOW, 1), FAULT_INDEX);
        due("none taken at the end", w.well(0, 0, 3, 0), -100);
        due("fault", w.fault(), 0);
        due("all", w.well(0, 0, 0, 3), -103);
    }

    private static void textsMakeAnew() {
        WellBack w = by(FOUR);
        due("reading", w.reading(0, 3, 2), 0);
        due("tell", w.tell(0), 2);
        row(w, 3, 1, 77);
        due("refused", text(w, "g00"), -103);
        due("READINGS stay", w.many(3), 1);
        due("refused", text(w, "g912;l83409"), -110);
        due("taken", text(w, "g912;l8340"), 1);
        due("no READINGS", w.many(3), 0);
        due("THINGS", w.many(0), 1);
        due("ROTA", w.many(1), 2);
        due("DEPTH", w.many(2), 9);
        due("no second THING", w.ofThing(1, 0), WellBack.UNKNOWN);
        due("TRACE stays", w.trace(), 1);
        due("SHEETS stay", w.cell(3, 0, 1), 77);
    }

    private static void ofThings() {
        WellBack v = by("g3012;t2011;l0012;r4123;l4321");
        int[][] want = {{0, 2, 0, 1, 1, 5}, {1, 0, 0, 1, 2, 2}, {2, 4, 1, 2, 3, 14}, {1, 4, 3, 2, 1, 6}};
        for (int x = 0; x < 4; x++) {
            for (int what = 0; what < 6; what++) {
                due("ofThing " + x + " " + what, v.ofThing(x, what), want[x][what]);
            }
        }
        due("what", v.ofThing(0, 6), WellBack.OUTSIDE);
        due("what", v.ofThing(3, -1), WellBack.OUTSIDE);
        due("THING first", v.ofThing(4, 6), WellBack.UNKNOWN);
        due("THING", v.ofThing(-1, 0), WellBack.UNKNOWN);
        due("THING", v.ofThing(LOW, 0), WellBack.UNKNOWN);
        due("a LETTER's DELAY is 0 at least", by("g00;l0010").ofThing(0, 5), 0);
        due("a LETTER of 1", by("g00;l1010").ofThing(0, 5), 0);
        due("a RING of 0", by("g00;r0010").ofThing(0, 5), 0);
        due("the longest", by("g90;r9010").ofThing(0, 5), 36);
    }

    private static void draws() {
        WellBack w = new WellBack();
        due("STATE first", w.draws(-1), WellBack.STATE);
        due("taken", text(w, "g00412;t0000"), 1);
        int[] rota = {0, 4, 1, 2};
        for (int hour = 0; hour < 100; hour++) {
            due("draws " + hour, w.draws(hour), rota[hour % 4]);
        }
        due("hour", w.draws(100), WellBack.OUTSIDE);
        due("hour", w.draws(-1), WellBack.OUTSIDE);
        due("hour", w.draws(LOW), WellBack.OUTSIDE);
    }

    private static void weigh() {
        WellBack w = by("g3012;t2011;l4120");
        due("reading", w.reading(0, 1, 2), 0);
        due("weigh", w.weigh(0, 9), 2);
        due("weigh", w.weigh(0, 0), 9);
        due("weigh", w.weigh(1, 1), 4);
        due("weight", w.ofThing(0, 1), 0);
        due("DELAY", w.ofThing(0, 5), 3);
        due("DELAY", w.ofThing(1, 5), 3);
        due("READINGS stay", w.many(3), 1);
        due("v", w.weigh(0, 10), WellBack.OUTSIDE);
        due("v", w.weigh(0, -1), WellBack.OUTSIDE);
        due("THING first", w.weigh(2, 10), WellBack.UNKNOWN);
        due("THING", w.weigh(-1, 1), WellBack.UNKNOWN);
        due("it stays", w.ofThing(0, 1), 0);
    }

    private static void dig() {
        WellBack w = new WellBack();
        due("OUTSIDE first", w.dig(10), WellBack.OUTSIDE);
        due("STATE", w.dig(9), WellBack.STATE);
        due("taken", text(w, "g3012;t2011"), 1);
        due("reading", w.reading(0, 1, 2), 0);
        due("dig", w.dig(9), 3);
        due("dig", w.dig(0), 9);
        due("v", w.dig(-1), WellBack.OUTSIDE);
        due("v", w.dig(10), WellBack.OUTSIDE);
        due("DEPTH", w.many(2), 0);
        due("DELAY", w.ofThing(0, 5), 2);
        due("READINGS stay", w.many(3), 1);
    }

    private static void hire() {
        WellBack w = new WellBack();
        due("no ROTA", w.hire(0, 0), WellBack.UNKNOWN);
        due("taken", text(w, "g3012;t2011"), 1);
        due("reading", w.reading(0, 1, 2), 0);
        due("hire", w.hire(2, 4), 2);
        due("hire", w.hire(2, 0), 4);
        due("draws", w.draws(5), 0);
        due("draws", w.draws(4), 1);
        due("READINGS stay", w.many(3), 1);
        due("place", w.hire(3, 0), WellBack.UNKNOWN);
        due("place", w.hire(-1, 0), WellBack.UNKNOWN);
        due("DRAWER", w.hire(0, 5), WellBack.UNKNOWN);
        due("DRAWER", w.hire(0, -1), WellBack.UNKNOWN);
        due("it stays", w.draws(0), 0);
    }

    private static void dropIs(WellBack w, int x, int d, int hour, int who, int when, int ups) {
        due("drop " + x + " " + d + " " + hour + " who", w.drop(x, d, hour, 0), who);
        due("drop " + x + " " + d + " " + hour + " hour", w.drop(x, d, hour, 1), when);
        due("drop " + x + " " + d + " " + hour + " ups", w.drop(x, d, hour, 2), ups);
    }

    private static void drop() {
        // DELAY 5, drawn by 0 1 2: behind hour 1 it comes up in 6 (by 0), 11 (by 2).
        WellBack w = by("g3012;t2011");
        dropIs(w, 0, 1, 1, 0, 6, 1);
        dropIs(w, 0, 0, 1, 2, 11, 2);
        dropIs(w, 0, 4, 99, 2, 104, 1);
        // DELAY 1, drawn by 0 0 0 0 0 3: five times by 0, then by 3.
        w = by("g1000003;t0031");
        dropIs(w, 0, 0, 5, 3, 11, 6);
        dropIs(w, 0, 3, 5, 0, 6, 1);
        dropIs(w, 0, 0, 0, 3, 5, 5);
        // DELAY 0: drawn in the same hour, or never.
        w = by("g0012;t0011");
        dropIs(w, 0, 0, 1, 1, 1, 1);
        dropIs(w, 0, 1, 1, WellBack.NONE, WellBack.NONE, WellBack.NONE);
        // DELAY 3, as long as the ROTA is.
        w = by("g3012;t0011");
        dropIs(w, 0, 2, 5, WellBack.NONE, WellBack.NONE, WellBack.NONE);
        dropIs(w, 0, 0, 5, 2, 8, 1);
        due("hour", w.drop(0, 0, 100, 0), WellBack.OUTSIDE);
        due("hour", w.drop(0, 0, -1, 0), WellBack.OUTSIDE);
        due("what", w.drop(0, 0, 0, 3), WellBack.OUTSIDE);
        due("what", w.drop(0, 0, 0, -1), WellBack.OUTSIDE);
        due("what ahead of NONE", w.drop(0, 2, 5, 3), WellBack.OUTSIDE);
        due("THING", w.drop(1, 0, 100, 3), WellBack.UNKNOWN);
        due("DRAWER", w.drop(0, 5, 100, 3), WellBack.UNKNOWN);
        due("DRAWER", w.drop(0, -9, 0, 0), WellBack.UNKNOWN);
    }

    private static void hands() {
        // DELAY 1, drawn by 0 1 2: from hand to hand in a ring.
        WellBack w = by("g1012;t0000;t0300");
        for (int k = 0; k <= 30; k++) {
            due("hands " + k, w.hands(0, k), k % 3);
        }
        // OWNER 3 is not in the ROTA: drawn in hour 1 by 1, and so on.
        due("hands", w.hands(1, 0), 3);
        due("hands", w.hands(1, 1), 1);
        due("hands", w.hands(1, 30), 0);
        due("k", w.hands(0, 31), WellBack.OUTSIDE);
        due("k", w.hands(0, -1), WellBack.OUTSIDE);
        due("THING first", w.hands(2, 31), WellBack.UNKNOWN);
        // DELAY 0: another one draws it, and then never one.
        w = by("g0012;t0001");
        due("hands", w.hands(0, 0), 0);
        due("hands", w.hands(0, 1), 1);
        due("hands", w.hands(0, 2), WellBack.NONE);
        due("hands", w.hands(0, 30), WellBack.NONE);
        // Drawn by its OWNER alone.
        w = by("g13;t0300");
        due("hands", w.hands(0, 0), 3);
        due("hands", w.hands(0, 1), WellBack.NONE);
    }

    private static void home() {
        WellBack w = by("g1012;t0000;t0300;r0000");
        due("a ring of three", w.home(0), 3);
        due("not in the ROTA", w.home(1), WellBack.NONE);
        due("the other way round", w.home(2), 3);
        due("never drawn", by("g13;t0300").home(0), WellBack.NONE);
        due("drawn once", by("g0012;t0001").home(0), WellBack.NONE);
        due("to and fro", by("g101;t0000").home(0), 2);
        due("six places", by("g1012341;t0000").home(0), 6);
        due("THING", w.home(3), WellBack.UNKNOWN);
        due("THING", w.home(-1), WellBack.UNKNOWN);
    }

    private static void meets() {
        WellBack w = by("g1012;t0000;t0300;r0000;t0002");
        due("a ring of three", w.meets(0), set(0, 1, 2));
        due("its OWNER, too", w.meets(1), set(0, 1, 2, 3));
        due("DELAY 2", w.meets(2), set(0, 1, 2));
        due("never drawn", by("g13;t0300").meets(0), set(3));
        due("drawn once", by("g0012;t0041").meets(0), set(0, 1));
        due("drawn once, not by its OWNER", by("g0012;t0401").meets(0), set(1, 4));
        due("all", by("g101234;t0000").meets(0), set(0, 1, 2, 3, 4));
        due("THING", w.meets(4), WellBack.UNKNOWN);
        due("THING", w.meets(-1), WellBack.UNKNOWN);
    }

    private static void hoursTold() {
        // DELAYS 5, 6, 8: dropped in h by OWNERS 0, 1, 0; drawn by 0 1 2.
        WellBack w = by("g3012;t2011;l4120;r1042");
        row(w, 1, 2, 0, 1, 2);
        // Thing 0: up in 5 by 2. Thing 1: up in 7 by 1, .. never. Thing 2: up in 10 by 1.
        due("RIGHT", w.hours(1, 2, 0, 3, 0), 0);
        due("latest", w.hours(1, 2, 0, 3, 1), 10);
        due("most, the least one", w.hours(1, 2, 0, 3, 2), 1);
        due("thing 0", w.hours(1, 2, 0, 3, 10), 2);
        due("thing 1", w.hours(1, 2, 0, 3, 11), WellBack.NONE);
        due("thing 2", w.hours(1, 2, 0, 3, 12), 1);
        due("no thing 3", w.hours(1, 2, 0, 3, 13), WellBack.NONE);
        due("no thing 4", w.hours(1, 2, 0, 3, 14), WellBack.NONE);
        // Thing 0 in 2: up in 7 by 1, RIGHT. Thing 1 in 23: up in 29 by 2, RIGHT. Thing 2 in 3: up in 11 by 2.
        row(w, 1, 1, 99, 2, 23, 3);
        due("RIGHT", w.hours(1, 1, 1, 3, 0), set(0, 1));
        due("latest", w.hours(1, 1, 1, 3, 1), 29);
        due("most", w.hours(1, 1, 1, 3, 2), 2);
        due("HOURS stay", w.ofThing(0, 4), 1);
        w = by("g31;t0100;t0110");
        row(w, 1, 0, 0, 23);
        due("none is drawn", w.hours(1, 0, 0, 2, 0), 0);
        due("none is drawn", w.hours(1, 0, 0, 2, 1), WellBack.NONE);
        due("none is drawn", w.hours(1, 0, 0, 2, 2), WellBack.NONE);
    }

    private static void hoursRefused() {
        WellBack w = new WellBack();
        due("SHEET first", w.hours(4, 3, 0, 0, 3), WellBack.UNKNOWN);
        due("SHEET", w.hours(-1, 0, 0, 0, 0), WellBack.UNKNOWN);
        due("lane", w.hours(0, 3, 0, 0, 0), WellBack.OUTSIDE);
        due("lane", w.hours(0, -1, 0, 0, 0), WellBack.OUTSIDE);
        for (int what : new int[] {-1, 3, 9, 15, LOW, HIGH}) {
            due("what", w.hours(0, 0, 0, 0, what), WellBack.OUTSIDE);
        }
        due("NULL ahead of SIZE", w.hours(0, 0, -1, -1, 0), FAULT_NULL);
        row(w, 1, 2, 1, 2, 24, -1);
        due("CAST ahead of SIZE", w.hours(1, 0, -1, -1, 0), FAULT_CAST);
        due("fault", w.fault(), 2);
        due("SIZE ahead of INDEX", w.hours(1, 2, -1, -1, 14), FAULT_SIZE);
        due("fault", w.fault(), 4);
        due("INDEX ahead of STATE", w.hours(1, 2, 5, 0, 0), FAULT_INDEX);
        due("INDEX", w.hours(1, 2, 1, HIGH, 0), FAULT_INDEX);
        due("fault", w.fault(), 3);
        due("STATE", w.hours(1, 2, 4, 0, 0), WellBack.STATE);
        due("fault", w.fault(), 0);
        due("taken", text(w, "g3012;t2011;l4120"), 2);
        due("n", w.hours(1, 2, 0, 1, 0), WellBack.OUTSIDE);
        due("n", w.hours(1, 2, 0, 3, 0), WellBack.OUTSIDE);
        due("n", w.hours(1, 2, 0, 0, 0), WellBack.OUTSIDE);
        due("no HOUR", w.hours(1, 2, 1, 2, 0), WellBack.OUTSIDE);
        due("no HOUR", w.hours(1, 2, 2, 2, 14), WellBack.OUTSIDE);
        due("HOURS", w.hours(1, 2, 0, 2, 14), WellBack.NONE);
    }

    private static void when() {
        // DELAY 5, OWNER 0, drawn by 0 1 2: in 2 up in 7 by 1; in 0 up in 5 by 2.
        WellBack w = by("g3012;t2011;t0000");
        due("when", w.when(0, 1), 2);
        due("when", w.when(0, 2), 0);
        due("never its OWNER", w.when(0, 0), WellBack.NONE);
        due("not in the ROTA", w.when(0, 3), WellBack.NONE);
        // DELAY 3: in 1 up in 4 by 1.
        due("when", w.when(1, 1), 1);
        due("DRAWER", w.when(0, 5), WellBack.UNKNOWN);
        due("DRAWER", w.when(0, -9), WellBack.UNKNOWN);
        due("THING", w.when(2, 0), WellBack.UNKNOWN);
        // DELAY 1, drawn by 0 0 0 0 0 1: dropped in 0 and sunk till 5.
        due("behind some sinking", by("g1000001;t0010").when(0, 1), 0);
        // DELAY 6, as long as the ROTA is.
        due("at the end of the ROTA", by("g6000001;t0010").when(0, 1), 5);
    }

    private static void best() {
        WellBack w = new WellBack();
        due("STATE first", w.best(-2), WellBack.STATE);
        // DELAY 1: dropped in 0 by 0, GOAL 2: 2 is to draw in hour 1.
        due("taken", text(w, "g1210;t0020"), 1);
        due("RIGHT", w.best(-1), 1);
        due("first as a row", w.best(0), 0);
        due("first as a row", w.best(1), 2);
        due("first as a row", w.best(2), 1);
        due("no place", w.best(3), WellBack.NONE);
        due("no place", w.best(5), WellBack.NONE);
        due("k", w.best(6), WellBack.OUTSIDE);
        due("k", w.best(-2), WellBack.OUTSIDE);
        due("the ROTA stays", w.draws(0), 2);
        // Nothing can be RIGHT: the first row of all.
        w = by("g1432102;t0030;t0000");
        due("weigh", w.weigh(0, 9), 0);
        due("hire", w.hire(1, 4), 3);
        due("RIGHT", w.best(-1), 0);
        int[] sorted = {0, 1, 2, 2, 4, 4};
        for (int k = 0; k < 6; k++) {
            due("sorted " + k, w.best(k), sorted[k]);
        }
        // DELAY 1, in 0 to 3 (hour 1), in 1 to 2 (hour 2), in 2 to 1 (hour 3), in 3 to 0 (hour 4 is place 0).
        w = by("g10123;t0430;t0421;t0412;t0403");
        due("all RIGHT", w.best(-1), 4);
        int[] turned = {0, 3, 2, 1};
        for (int k = 0; k < 4; k++) {
            due("turned " + k, w.best(k), turned[k]);
        }
    }

    private static void reading() {
        WellBack w = new WellBack();
        due("no THING", w.reading(0, 0, 0), WellBack.UNKNOWN);
        due("taken", text(w, "g3012;t2011"), 1);
        due("THING first", w.reading(1, 24, 0), WellBack.UNKNOWN);
        due("DRAWER first", w.reading(0, 24, 5), WellBack.UNKNOWN);
        due("DRAWER", w.reading(0, 0, -1), WellBack.UNKNOWN);
        due("hour", w.reading(0, 24, 0), WellBack.OUTSIDE);
        due("hour", w.reading(0, -1, 0), WellBack.OUTSIDE);
        for (int k = 0; k < 8; k++) {
            due("reading", w.reading(0, k + 16, k == 7 ? -9 : k % 5), k);
        }
        due("FULL", w.reading(0, 0, 0), WellBack.FULL);
        due("OUTSIDE ahead of FULL", w.reading(0, 24, 0), WellBack.OUTSIDE);
        due("many", w.many(3), 8);
    }

    private static void back() {
        WellBack w = new WellBack();
        due("none", w.back(0), 0);
        due("k", w.back(1), WellBack.OUTSIDE);
        due("taken", text(w, "g3012;t2011"), 1);
        due("reading", w.reading(0, 1, 2), 0);
        due("reading", w.reading(0, 1, 1), 1);
        due("at odds", w.weights(0), 0);
        due("k", w.back(3), WellBack.OUTSIDE);
        due("k", w.back(-1), WellBack.OUTSIDE);
        due("none", w.back(0), 2);
        due("the last one", w.back(1), 1);
        due("the first one is left", w.weights(0) != 0 ? 1 : 0, 1);
        due("its number comes again", w.reading(0, 2, 1), 1);
        due("all", w.back(2), 0);
        due("all", w.weights(0), 1023);
    }

    private static void weights() {
        // OWNER 0 drops it in 1, drawn by 0 1 2: 2 draws it by DELAYS 1 (in 2), 4, ..;
        // and by 2 (in 3 by 0, in 5 by 2), 5, ..: DELAYS 0, 3, .. give it to 1 at once.
        WellBack w = by("g3012;t2011;t2100");
        due("no READINGS", w.weights(0), 1023);
        due("reading", w.reading(0, 1, 2), 0);
        due("by DELAY", w.weights(0), set(1, 2, 4, 5, 7, 8));
        due("another one, READING holds", w.weights(1), 1023);
        due("dig", w.dig(4), 3);
        due("as it is when asked", w.weights(0), set(0, 1, 3, 4, 6, 7, 9));
        due("another one, READING fails", w.weights(1), 0);
        due("dig", w.dig(3), 4);
        due("reading", w.reading(0, 0, 1), 1);
        due("both", w.weights(0), set(1, 4, 7));
        due("none", w.reading(0, 0, WellBack.NONE), 2);
        due("at odds", w.weights(0), 0);
        due("THING", w.weights(2), WellBack.UNKNOWN);
        due("THING", w.weights(-1), WellBack.UNKNOWN);
        w = by("g3012;t2011");
        due("nobody", w.reading(0, 0, WellBack.NONE), 0);
        due("DELAYS 3, 6, ..", w.weights(0), set(0, 3, 6, 9));
    }

    private static void kinds() {
        // DELAYS 5, 4, 10 from hour 1 by 0, drawn by 0 1 2: 2 draws (6 by 0, 11 by 2; 5 by 2; 11 by 2).
        WellBack w = by("g3012;t2011;t2100");
        due("no READINGS", w.kinds(0), 7);
        due("reading", w.reading(0, 1, 2), 0);
        due("all", w.kinds(0), 7);
        due("another one, READING holds", w.kinds(1), 7);
        // From hour 0: 5 by 2; 4 by 1; 10 by 1.
        due("reading", w.reading(0, 0, 1), 1);
        due("LETTER, RING", w.kinds(0), set(1, 2));
        due("another one, READING fails", w.kinds(1), 0);
        due("back", w.back(2), 0);
        due("reading", w.reading(0, 0, 2), 0);
        due("THING", w.kinds(0), set(0));
        due("weigh", w.weigh(0, 3), 2);
        // DELAYS 6 (never), 5, 12 (never).
        due("as it is when asked", w.kinds(0), set(1));
        due("THING", w.kinds(2), WellBack.UNKNOWN);
        due("THING", w.kinds(-1), WellBack.UNKNOWN);
    }

    private static void depths() {
        WellBack w = new WellBack();
        due("STATE", w.depths(), WellBack.STATE);
        due("taken", text(w, "g3012;t2011;t2100"), 2);
        due("no READINGS", w.depths(), 1023);
        // WEIGHT 2 and DEPTH: DELAYS 2 .. 11 but 3, 6, 9.
        due("reading", w.reading(0, 1, 2), 0);
        due("by DELAY", w.depths(), set(0, 2, 3, 5, 6, 8, 9));
        // OWNER 1 drops in 0: 2 draws it by DELAYS 2, 5, .. and by 1, 4, .. (in 1 by 1, in 2 by 2).
        due("reading", w.reading(1, 0, 0), 1);
        due("of both THINGS", w.depths(), 0);
        due("back", w.back(1), 1);
        due("reading", w.reading(1, 0, 2), 1);
        due("of both THINGS", w.depths(), set(0, 2, 3, 5, 6, 8, 9));
        due("weigh", w.weigh(0, 1), 2);
        due("as it is when asked", w.depths(), set(0, 3, 6, 9));
        due("DEPTH stays", w.many(2), 3);
    }

    private static void odds() {
        // DELAY 5, drawn by 0 1 2: from 0 mod 3 by 2, from 1 by 2 (sunk once), from 2 by 1.
        WellBack w = by("g3012;t2011;t2021;t2001;t2031");
        due("a third", w.odds(0, 0), 1);
        due("a third", w.odds(0, 1), 3);
        due("two thirds", w.odds(1, 0), 2);
        due("two thirds", w.odds(1, 1), 3);
        due("never its OWNER", w.odds(2, 0), 0);
        due("never its OWNER", w.odds(2, 1), 1);
        due("not in the ROTA", w.odds(3, 0), 0);
        due("always", by("g31;t2011").odds(0, 0), 1);
        due("always", by("g31;t2011").odds(0, 1), 1);
        // Five places, DELAY 5: from 0, 5, 10 by 1: 3 of 12; from 1, 6, 11 by 2; from 4, 9 by 4: 2 of 12.
        due("a quarter", by("g512334;t0010").odds(0, 1), 4);
        due("a sixth", by("g512334;t0040").odds(0, 0), 1);
        due("a sixth", by("g512334;t0040").odds(0, 1), 6);
        // From 2, 3, 7, 8: 4 of 12; with place 1, too: 7 of 12.
        due("a third", by("g512334;t0030").odds(0, 1), 3);
        due("seven twelfths", by("g513334;t0030").odds(0, 0), 7);
        due("seven twelfths", by("g513334;t0030").odds(0, 1), 12);
        due("READING", w.reading(0, 0, 4), 0);
        due("READINGS do not bind it", w.odds(0, 1), 3);
        due("which", w.odds(0, 2), WellBack.LOST);
        due("which", w.odds(0, -1), WellBack.LOST);
        due("THING", w.odds(4, 0), WellBack.LOST);
        due("THING", w.odds(-1, 0), WellBack.LOST);
    }

    private static void sheet() {
        WellBack w = new WellBack();
        due("SHEET first", w.sheet(4, 3, 61), WellBack.UNKNOWN);
        due("SHEET", w.sheet(-1, 0, 0), WellBack.UNKNOWN);
        due("lane ahead of SIZE", w.sheet(0, 3, -1), WellBack.OUTSIDE);
        due("lane", w.sheet(0, -1, 0), WellBack.OUTSIDE);
        due("n", w.sheet(0, 0, 61), WellBack.OUTSIDE);
        due("n", w.sheet(0, 0, HIGH), WellBack.OUTSIDE);
        due("fault", w.fault(), 0);
        due("SIZE", w.sheet(0, 0, -1), FAULT_SIZE);
        due("SIZE", w.sheet(0, 0, LOW), FAULT_SIZE);
        due("fault", w.fault(), 4);
        due("nothing yet", w.lose(0), 0);
        due("most", w.sheet(0, 2, 60), 1);
        due("put", w.put(0, 59, 8), 1);
        due("refused", w.sheet(0, 1, 61), WellBack.OUTSIDE);
        due("it stays", w.cell(0, 59, 2), 8);
        due("new row", w.sheet(0, 1, 60), 1);
        due("0 at first", w.cell(0, 59, 1), 0);
        due("none", w.sheet(3, 0, 0), 1);
        due("no cell", w.cell(3, 0, 0), WellBack.LOST);
        due("fault", w.fault(), 3);
        due("had a row", w.lose(3), 1);
    }

    private static void lose() {
        WellBack w = new WellBack();
        due("had nothing", w.lose(3), 0);
        due("sheet", w.sheet(3, 1, 2), 1);
        due("had a row", w.lose(3), 1);
        due("had nothing", w.lose(3), 0);
        due("NULL", w.cell(3, 0, 1), WellBack.LOST);
        due("fault", w.fault(), 1);
        due("names no FAULT", w.lose(4), WellBack.UNKNOWN);
        due("SHEET", w.lose(-1), WellBack.UNKNOWN);
        due("fault", w.fault(), 1);
    }

    private static void put() {
        WellBack w = new WellBack();
        due("SHEET first", w.put(4, 0, 0), WellBack.UNKNOWN);
        due("SHEET", w.put(-1, 0, 0), WellBack.UNKNOWN);
        due("NULL ahead of INDEX", w.put(0, -1, 0), FAULT_NULL);
        due("fault", w.fault(), 1);
        int[] values = {0, 127, 128, 255, 256, -129, 32767, 32768, 65535, 65536, -32769, HIGH, LOW};
        int[][] cut = {
            {0, 127, -128, -1, 0, 127, -1, 0, -1, 0, -1, -1, 0},
            {0, 127, 128, 255, 256, -129, 32767, -32768, -1, 0, 32767, -1, 0},
            values,
        };
        for (int lane = 0; lane < 3; lane++) {
            row(w, lane, lane, values);
            for (int i = 0; i < values.length; i++) {
                due("lane " + lane + " of " + values[i], w.cell(lane, i, lane), cut[lane][i]);
            }
        }
        due("INDEX", w.put(0, 13, 1), FAULT_INDEX);
        due("INDEX", w.put(0, -1, 1), FAULT_INDEX);
        due("INDEX", w.put(0, HIGH, 1), FAULT_INDEX);
        due("fault", w.fault(), 3);
        due("put", w.put(0, 12, 1), 1);
        due("fault", w.fault(), 0);
    }

    private static void cell() {
        WellBack w = new WellBack();
        due("SHEET", w.cell(4, 0, 0), WellBack.LOST);
        due("fault", w.fault(), 0);
        due("lane ahead of NULL", w.cell(0, 0, 3), WellBack.LOST);
        due("fault", w.fault(), 0);
        due("NULL", w.cell(0, 0, 0), WellBack.LOST);
        due("fault", w.fault(), 1);
        row(w, 0, 1, 5, -6);
        due("CAST ahead of INDEX", w.cell(0, 2, 0), WellBack.LOST);
        due("fault", w.fault(), 2);
        due("INDEX", w.cell(0, 2, 1), WellBack.LOST);
        due("fault", w.fault(), 3);
        due("INDEX", w.cell(0, -1, 1), WellBack.LOST);
        due("fault", w.fault(), 3);
        due("cell", w.cell(0, 0, 1), 5);
        due("fault", w.fault(), 0);
        due("cell", w.cell(0, 1, 1), -6);
        due("lane", w.cell(0, 1, -1), WellBack.LOST);
        due("fault", w.fault(), 0);
    }

    private static void cellsAre(WellBack w, int sheet, int lane, int... want) {
        for (int i = 0; i < want.length; i++) {
            due("cell " + i, w.cell(sheet, i, lane), want[i]);
        }
    }

    private static void copy() {
        WellBack w = new WellBack();
        due("SHEET first", w.copy(4, 0, 0, 0, 0), WellBack.UNKNOWN);
        due("SHEET", w.copy(0, 0, 4, 0, 0), WellBack.UNKNOWN);
        due("SHEET", w.copy(-1, 0, -1, 0, 0), WellBack.UNKNOWN);
        due("NULL", w.copy(0, 0, 1, 0, 0), FAULT_NULL);
        row(w, 0, 0, 1, 2, 3, 4, 5);
        due("NULL ahead of INDEX", w.copy(0, -1, 1, 0, -1), FAULT_NULL);
        due("NULL", w.copy(1, 0, 0, 0, 0), FAULT_NULL);
        row(w, 1, 1, 6, 7, 8);
        due("CAST ahead of INDEX", w.copy(0, -1, 1, 0, -1), FAULT_CAST);
        due("fault", w.fault(), 2);
        row(w, 2, 0, 6, 7, 8);
        int[][] beyond = {
            {-1, 0, 0}, {0, -1, 0}, {0, 0, -1}, {6, 0, 0}, {0, 4, 0}, {0, 0, 4}, {3, 0, 3}, {0, 1, 3},
            {1, 0, HIGH}, {HIGH, HIGH, HIGH}, {LOW, 0, 1}, {0, LOW, 1}, {0, 0, LOW},
        };
        for (int[] b : beyond) {
            due("INDEX", w.copy(0, b[0], 2, b[1], b[2]), FAULT_INDEX);
            due("fault", w.fault(), 3);
        }
        due("none, at the ends", w.copy(0, 5, 2, 3, 0), 0);
        due("fault", w.fault(), 0);
        cellsAre(w, 2, 0, 6, 7, 8);
        due("copy", w.copy(0, 3, 2, 1, 2), 2);
        cellsAre(w, 2, 0, 6, 4, 5);
        due("upwards in the same", w.copy(0, 0, 0, 1, 4), 4);
        cellsAre(w, 0, 0, 1, 1, 2, 3, 4);
        due("downwards in the same", w.copy(0, 2, 0, 0, 3), 3);
        cellsAre(w, 0, 0, 2, 3, 4, 3, 4);
    }

    private static void tell() {
        WellBack w = by("g3012;t2011;l4120;r9042");
        due("THING", w.tell(0), 2);
        due("TRACE", w.trace(), 1);
        due("LETTER", w.tell(1), 104);
        due("TRACE", w.trace(), (1 * 31 + 2) * 31 + 1);
        due("RING", w.tell(2), 118);
        due("TRACE", w.trace(), 1024 * 923521 + ((3 * 31 + 2) * 31 + 1) * 31 + 1);
        due("weigh", w.weigh(2, 0), 9);
        due("RING", w.tell(2), 100);
        int before = w.trace();
        due("THING", w.tell(3), WellBack.UNKNOWN);
        due("THING", w.tell(-1), WellBack.UNKNOWN);
        due("TRACE stays", w.trace(), before);
    }

    private static void splash() {
        WellBack w = by("g3012;t2011;l4120;r9042;t0000");
        due("THING", w.splash(0), 0);
        due("TRACE", w.trace(), 4);
        due("LETTER", w.splash(1), 1);
        due("TRACE", w.trace(), 128);
        due("RING", w.splash(2), 80);
        due("TRACE", w.trace(), 3973);
        due("THING", w.splash(3), 3);
        due("THING", w.splash(4), WellBack.UNKNOWN);
        due("THING", w.splash(-1), WellBack.UNKNOWN);
        due("TRACE", w.trace(), 123167);
    }

    private static void as() {
        WellBack w = by("g3012;t2011;l4120;r9042");
        for (int x = 0; x < 3; x++) {
            for (int kind = 0; kind < 3; kind++) {
                due("as " + x + " " + kind, w.as(x, kind), kind <= x ? 1 : FAULT_CAST);
                due("fault", w.fault(), kind <= x ? 0 : 2);
            }
        }
        due("CAST", w.as(0, 2), FAULT_CAST);
        due("kind", w.as(0, 3), WellBack.OUTSIDE);
        due("fault", w.fault(), 0);
        due("kind", w.as(2, -1), WellBack.OUTSIDE);
        due("THING first", w.as(3, 3), WellBack.UNKNOWN);
        due("THING", w.as(-1, 0), WellBack.UNKNOWN);
    }

    private static void trace() {
        WellBack w = by("g3012;r2011");
        int want = 0;
        for (int k = 0; k < 20; k++) {
            due("tell", w.tell(0), 104);
            due("splash", w.splash(0), 80);
            for (int number : new int[] {3, 2, 1, 1, 5}) {
                want = 31 * want + number;
            }
            due("TRACE wraps", w.trace(), want);
        }
    }

    private static void fault() {
        WellBack w = new WellBack();
        due("ahead of any", w.fault(), 0);
        due("NULL", w.put(0, 0, 0), FAULT_NULL);
        due("others leave it", w.ofThing(0, 0), WellBack.UNKNOWN);
        due("others leave it", w.draws(0), WellBack.STATE);
        due("others leave it", w.dig(0), WellBack.STATE);
        due("others leave it", w.odds(0, 0), WellBack.LOST);
        due("others leave it", w.back(0), 0);
        due("others leave it", w.tell(0), WellBack.UNKNOWN);
        due("others leave it", w.many(9), WellBack.OUTSIDE);
        due("others leave it", w.trace(), 0);
        due("fault", w.fault(), 1);
        due("fault", w.fault(), 1);
        due("refused", w.well(9, 0, 0, 0), WellBack.UNKNOWN);
        due("fault", w.fault(), 0);
        due("SIZE", w.sheet(0, 0, -1), FAULT_SIZE);
        due("refused", w.hours(9, 0, 0, 0, 0), WellBack.UNKNOWN);
        due("fault", w.fault(), 0);
        due("SIZE", w.sheet(0, 0, -1), FAULT_SIZE);
        due("refused", w.copy(9, 0, 0, 0, 0), WellBack.UNKNOWN);
        due("fault", w.fault(), 0);
        due("SIZE", w.sheet(0, 0, -1), FAULT_SIZE);
        due("refused", w.sheet(9, 0, 0), WellBack.UNKNOWN);
        due("fault", w.fault(), 0);
        due("SIZE", w.sheet(0, 0, -1), FAULT_SIZE);
        due("came to none", w.sheet(0, 0, 1), 1);
        due("fault", w.fault(), 0);
        due("INDEX", w.put(0, 1, 0), FAULT_INDEX);
        due("refused", w.put(9, 1, 0), WellBack.UNKNOWN);
        due("fault", w.fault(), 0);
        due("INDEX", w.put(0, 1, 0), FAULT_INDEX);
        due("a FIRST FAULT is none", w.well(0, 0, 0, 1), -100);
        due("fault", w.fault(), 0);
    }

    private static void many() {
        WellBack w = by("g3012;t2011;l4120");
        due("reading", w.reading(0, 0, 0), 0);
        due("THINGS", w.many(0), 2);
        due("places", w.many(1), 3);
        due("DEPTH", w.many(2), 3);
        due("READINGS", w.many(3), 1);
        due("what", w.many(4), WellBack.OUTSIDE);
        due("what", w.many(-1), WellBack.OUTSIDE);
        due("what", w.many(LOW), WellBack.OUTSIDE);
    }
}
