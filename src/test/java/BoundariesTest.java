// Each sentence of the document that names a boundary, by its words: the last value on either side and the
// first one past it, the empty and the full case, what wraps. (What a refused call leaves: RefusalsTest.)
public final class BoundariesTest {
    private static final int LOW = Integer.MIN_VALUE, HIGH = Integer.MAX_VALUE;
    private static final int UNKNOWN = -1, OUTSIDE = -2, STATE = -3, FULL = -4, NONE = -9;
    private static final int NULL = -11, CAST = -12, INDEX = -13, SIZE = -14;
    private static final String LONGEST = "g5012340;t0000;l1111;r2222;t3333;l9449";

    private static String sentence = "";
    private static int wrong = 0;

    public static void main(String[] args) {
        terms();
        theText();
        comingUp();
        whenAndRota();
        readings();
        sheetsAndParts();
        System.out.println(wrong == 0 ? "BoundariesTest: all as due" : "BoundariesTest: " + wrong + " not as due");
        if (wrong != 0) {
            System.exit(1);
        }
    }

    private static void terms() {
        numbersOfRefusals();
        tenLessTheFault();
        noneIsTaken();
        setsAreBits();
        sharesInLeastTerms();
        the512thCall();
        aNewObject();
    }

    private static void theText() {
        drawers();
        depthDigit();
        oneToSixDigits();
        theRotaTurns();
        oneToFiveThings();
        digitsOfAThing();
        everyCodeAtEveryPlace();
        justEndsTooSoon();
        seventhDigitAndSixthSemicolon();
        cellsOfASheet();
        textsInEachLane();
        kindsOfThings();
        makesAllAnew();
        delays();
        weighed();
        digged();
        hired();
        hoursDrawn();
    }

    private static void comingUp() {
        hoursOfADrop();
        sinksTillAnother();
        neverAnother();
        handsFrom0To30();
        homeFrom1To30();
        meetsAll();
        hoursTold0To23();
        asManyHoursAsThings();
        whatOfHours();
        latestHour();
        mostOfThem();
    }

    private static void whenAndRota() {
        leastHour();
        aGoalThatIsTheOwner();
        firstAsARow();
        placesOfBest();
    }

    private static void readings() {
        eightAtMost();
        hoursOfReadings();
        byNobody();
        takenBack();
        setsWithoutReadings();
        setsAtTheirEnds();
        setsThatAreEmpty();
        byHowAllIsWhenAsked();
        hours0To11();
    }

    private static void sheetsAndParts() {
        sheets0To3();
        rowsOf0To60();
        lanes0To2();
        cutToItsLane();
        aNewRow();
        loseNothing();
        copyAtTheEnds();
        copyInTheSame();
        tellings();
        splashes();
        traceWraps();
        takenAsKinds();
        faultOfTheLatest();
        howMany();
    }

    // ---- the looking

    private static void due(String call, long got, long want) {
        if (got != want) {
            wrong++;
            System.out.println(sentence + " -- " + call + " answered " + got + ", due is " + want);
        }
    }

    private static void row(WellBack w, int sheet, int lane, int... cells) {
        due("sheet", w.sheet(sheet, lane, cells.length), 1);
        for (int i = 0; i < cells.length; i++) {
            due("put", w.put(sheet, i, cells[i]), 1);
        }
    }

    private static int[] codes(String text) {
        int[] codes = new int[text.length()];
        for (int i = 0; i < codes.length; i++) {
            codes[i] = text.charAt(i);
        }
        return codes;
    }

    private static int text(WellBack w, String text) {
        row(w, 3, 0, codes(text));
        return w.well(3, 0, 0, text.length());
    }

    private static WellBack by(String text) {
        WellBack w = new WellBack();
        due("well of " + text, text(w, text) > 0 ? 1 : 0, 1);
        return w;
    }

    private static void told(String text, int want) {
        due("well of " + text, text(new WellBack(), text), want);
    }

    private static int set(int... numbers) {
        int bits = 0;
        for (int k : numbers) {
            bits |= 1 << k;
        }
        return bits;
    }

    // ---- terms

    private static void numbersOfRefusals() {
        sentence = "REFUSALS: UNKNOWN -1, OUTSIDE -2, STATE -3, FULL -4, NONE -9, LOST the least long";
        due("UNKNOWN", WellBack.UNKNOWN, -1);
        due("OUTSIDE", WellBack.OUTSIDE, -2);
        due("STATE", WellBack.STATE, -3);
        due("FULL", WellBack.FULL, -4);
        due("NONE", WellBack.NONE, -9);
        due("LOST", WellBack.LOST, -9223372036854775808L);
    }

    private static void tenLessTheFault() {
        sentence = "FAULTS 1 NULL, 2 CAST, 3 INDEX, 4 SIZE: it answers -10 less it (LOST, where a long is answered)";
        WellBack w = by("g01;t0000");
        row(w, 0, 1, 7);
        int[] answers = {
            w.well(1, 1, 0, 1), w.fault(), w.well(0, 0, 0, 1), w.fault(), w.well(0, 1, 0, 2), w.fault(),
            w.well(0, 1, 0, -1), w.fault(), w.hours(1, 1, 0, 1, 0), w.fault(), w.hours(0, 0, 0, 1, 0), w.fault(),
            w.hours(0, 1, 0, 2, 0), w.fault(), w.hours(0, 1, 0, -1, 0), w.fault(), w.sheet(0, 0, -1), w.fault(),
            w.put(1, 0, 0), w.fault(), w.put(0, 1, 0), w.fault(), w.copy(0, 0, 1, 0, 1), w.fault(),
            w.copy(3, 0, 0, 0, 1), w.fault(), w.copy(0, 0, 0, 1, 1), w.fault(), w.as(0, 1), w.fault(),
        };
        int[] faults = {1, 2, 3, 4, 1, 2, 3, 4, 4, 1, 3, 1, 2, 3, 2};
        for (int k = 0; k < faults.length; k++) {
            due("FAULT " + k, answers[2 * k], -10 - faults[k]);
            due("fault() of FAULT " + k, answers[2 * k + 1], faults[k]);
        }
        int[][] cells = {{1, 0, 1, 1}, {0, 0, 0, 2}, {0, 1, 1, 3}};
        for (int[] c : cells) {
            due("cell", w.cell(c[0], c[1], c[2]), WellBack.LOST);
            due("fault() of cell", w.fault(), c[3]);
        }
    }

    private static void noneIsTaken() {
        sentence = "NONE is -9: the -9 of a reading is nobody, of another call no DRAWER";
        WellBack w = by("g012;t0000");
        due("reading", w.reading(0, 0, -9), 0);
        due("hire", w.hire(0, -9), UNKNOWN);
        due("drop", w.drop(0, -9, 0, 0), UNKNOWN);
        due("when", w.when(0, -9), UNKNOWN);
    }

    private static void setsAreBits() {
        sentence = "Sets are told as bits (bit k for number k)";
        WellBack w = by("g001234;t0440;t0330;t0220;t0110;t0010");
        due("bit 4 of DRAWERS", w.meets(0), set(4, 0));
        due("bit 0 of DRAWERS", w.meets(4), set(0));
        row(w, 0, 0, 1, 2, 3, 4, 1);
        // DELAY 0: dropped in hour 1 it is drawn by 1 at once: bit 4 for the last THING alone.
        due("bit 4 of THINGS", w.hours(0, 0, 0, 5, 0), set(4));
        row(w, 0, 0, 4, 2, 3, 4, 0);
        due("no bit", w.hours(0, 0, 0, 5, 0), 0);
        due("least set", by("g001;t0010").meets(0), set(0));
    }

    // Comes up in the place in which it was dropped, OWNER 4 is not in the ROTA: RIGHT where the ROTA says 1.
    // Of the HOURS 0 to 11 three each are at places 0, 1 and two each at places 2, 3, 4.
    private static void sharesInLeastTerms() {
        sentence = "Shares are told as upper and lower number (above 0) in least terms";
        String[] rotas = {"22222", "22122", "12222", "22112", "12122", "11222", "12112", "11122", "12111", "11112", "11111"};
        int[] upper = {0, 1, 1, 1, 5, 1, 7, 2, 3, 5, 1};
        int[] lower = {1, 6, 4, 3, 12, 2, 12, 3, 4, 6, 1};
        for (int k = 0; k < rotas.length; k++) {
            WellBack w = by("g5" + rotas[k] + ";t0410");
            due("upper by " + rotas[k], w.odds(0, 0), upper[k]);
            due("lower by " + rotas[k], w.odds(0, 1), lower[k]);
        }
    }

    private static void the512thCall() {
        sentence = "An object is used for at most 512 calls: the last one of them still answers";
        WellBack w = new WellBack();
        row(w, 0, 0, codes("g31;r4000"));
        due("well", w.well(0, 0, 0, 9), 1);
        int trace = 0;
        for (int call = 12; call <= 511; call++) {
            due("splash, call " + call, w.splash(0), 80);
            trace = 31 * trace + 5;
        }
        due("trace, call 512", w.trace(), trace);
    }

    private static void aNewObject() {
        sentence = "WellBack(): No WELL (no ROTA, THINGS), SHEETS have nothing";
        WellBack w = new WellBack();
        due("fault", w.fault(), 0);
        due("trace", w.trace(), 0);
        for (int what = 0; what < 4; what++) {
            due("many", w.many(what), 0);
        }
        due("draws", w.draws(0), STATE);
        due("hire", w.hire(0, 0), UNKNOWN);
        for (int x = 0; x < 5; x++) {
            due("ofThing", w.ofThing(x, 0), UNKNOWN);
        }
        for (int k = 0; k < 4; k++) {
            due("cell", w.cell(k, 0, 0), WellBack.LOST);
            due("fault", w.fault(), 1);
            due("put", w.put(k, 0, 0), NULL);
            due("well", w.well(k, 0, 0, 0), NULL);
            due("lose", w.lose(k), 0);
        }
        due("another object is apart", by("g31;t0000").many(0) - w.many(0), 1);
    }

    // ---- 1 the well

    private static void drawers() {
        sentence = "There are DRAWERS 0 .. 4";
        WellBack w = by("g1012340;t0000");
        due("hire 0", w.hire(5, 0), 0);
        due("hire 4", w.hire(5, 4), 0);
        due("hire -1", w.hire(5, -1), UNKNOWN);
        due("hire 5", w.hire(5, 5), UNKNOWN);
        due("it stays", w.draws(5), 4);
        due("drop by 0", w.drop(0, 0, 0, 0), 1);
        due("drop by 4", w.drop(0, 4, 0, 0), 1);
        due("drop by -1", w.drop(0, -1, 0, 0), UNKNOWN);
        due("drop by 5", w.drop(0, 5, 0, 0), UNKNOWN);
        due("when 4", w.when(0, 4), 3);
        due("when 0", w.when(0, 0), NONE);
        due("when -1", w.when(0, -1), UNKNOWN);
        due("when 5", w.when(0, 5), UNKNOWN);
        due("reading of 0", w.reading(0, 0, 0), 0);
        due("reading of 4", w.reading(0, 0, 4), 1);
        due("reading of -1", w.reading(0, 0, -1), UNKNOWN);
        due("reading of 5", w.reading(0, 0, 5), UNKNOWN);
    }

    private static void depthDigit() {
        sentence = "a digit 0 .. 9 (DEPTH)";
        for (int deep = 0; deep <= 9; deep++) {
            due("DEPTH", by("g" + deep + "0;t0000").many(2), deep);
        }
        told("g/0;t0000", -101);
        told("g:0;t0000", -101);
    }

    private static void oneToSixDigits() {
        sentence = "then 1 to 6 digits 0 .. 4 (ROTA)";
        String rota = "012344";
        told("g0;t0000", -102);
        for (int n = 1; n <= 6; n++) {
            WellBack w = by("g0" + rota.substring(0, n) + ";t0000");
            due("places", w.many(1), n);
            due("the last one", w.draws(n - 1), rota.charAt(n - 1) - '0');
            String begun = "g0" + rota.substring(0, n - 1);
            told(begun + "/;t0000", -101 - n);
            told(begun + "5;t0000", -101 - n);
        }
        told("g00123440;t0000", -108);
    }

    private static void theRotaTurns() {
        sentence = "behind the last one the first one draws again, and so on";
        String rota = "412030";
        for (int n = 1; n <= 6; n++) {
            WellBack w = by("g0" + rota.substring(0, n) + ";t0000");
            for (int hour : new int[] {0, n - 1, n, n + 1, 2 * n - 1, 2 * n, 98, 99}) {
                due("draws " + hour + " of " + n, w.draws(hour), rota.charAt(hour % n) - '0');
            }
        }
    }

    private static void oneToFiveThings() {
        sentence = "then 1 to 5 THINGS, numbered from 0 on";
        StringBuilder s = new StringBuilder("g00");
        told(s.toString(), -103);
        for (int n = 1; n <= 5; n++) {
            s.append(";t").append(n).append("000");
            WellBack w = by(s.toString());
            due("THINGS", w.many(0), n);
            due("the first one", w.ofThing(0, 1), 1);
            due("the last one", w.ofThing(n - 1, 1), n);
            due("none behind", w.ofThing(n, 1), UNKNOWN);
            due("none ahead", w.ofThing(-1, 1), UNKNOWN);
        }
        told(s + ";t6000", -133);
    }

    private static void digitsOfAThing() {
        sentence = "a digit 0 .. 9 (WEIGHT), two digits 0 .. 4 (its OWNER, its GOAL), a digit 0 .. 9 (the HOUR)";
        WellBack w = by("g00;t0000;t9449");
        int[] most = {0, 9, 4, 4, 9};
        for (int what = 1; what < 5; what++) {
            due("least", w.ofThing(0, what), 0);
            due("most", w.ofThing(1, what), most[what]);
        }
        String[] past = {"/000", ":000", "0/00", "0500", "00/0", "0050", "000/", "000:"};
        for (int k = 0; k < past.length; k++) {
            told("g00;t0000;t" + past[k], -111 - k / 2);
        }
    }

    // The codes with which a TEXT goes on at each place of the longest one.
    private static String goesOn(int place) {
        if (place < 2) {
            return place == 0 ? "g" : "0123456789";
        }
        if (place < 8) {
            return place == 2 ? "01234" : "01234;";
        }
        String[] ofThing = {";", "tlr", "0123456789", "01234", "01234", "0123456789"};
        return ofThing[(place - 8) % 6];
    }

    private static void everyCodeAtEveryPlace() {
        sentence = "FIRST FAULT: the place (from 0 on) of the first code with which no TEXT goes on";
        for (int place = 0; place < LONGEST.length(); place++) {
            WellBack w = new WellBack();
            row(w, 0, 2, codes(LONGEST));
            for (int code = -2; code <= 130; code++) {
                if (code < 0 || goesOn(place).indexOf(code) < 0) {
                    due("put", w.put(0, place, code), 1);
                    due("well, " + code + " at " + place, w.well(0, 2, 0, LONGEST.length()), -100 - place);
                }
            }
            due("put", w.put(0, place, LONGEST.charAt(place)), 1);
            due("well, as it was", w.well(0, 2, 0, LONGEST.length()), 5);
        }
        told("g0;0000", -102);
        told("g01;;0000", -104);
        told("x/5;x", -100);
    }

    private static void justEndsTooSoon() {
        sentence = "how many codes there are, if it just ends too soon";
        for (String whole : new String[] {LONGEST, "g00;t0000;l0000;r0000;t0000;l0000", "g912;r9449"}) {
            WellBack w = new WellBack();
            row(w, 0, 1, codes(whole));
            int head = whole.indexOf(';');
            for (int n = 0; n <= whole.length(); n++) {
                boolean ends = n > head && (n - head) % 6 == 0;
                due("well of " + n + " codes", w.well(0, 1, 0, n), ends ? (n - head) / 6 : -100 - n);
            }
        }
    }

    private static void seventhDigitAndSixthSemicolon() {
        sentence = "(the digit of a seventh in the ROTA, the ; of a sixth THING)";
        told("g50123400", -108);
        told("g5012340", -108);
        told("g50123405;t0000", -108);
        told("g5012340;t0000", 1);
        told(LONGEST, 5);
        told(LONGEST + ";", -138);
        told(LONGEST + ";t0000", -138);
        told(LONGEST + "t", -138);
        told(LONGEST + "0", -138);
        told("g50;t0000;", -110);
        told("g50;t0000t", -109);
        told("g50;t00000", -109);
    }

    private static void cellsOfASheet() {
        sentence = "A WELL by a TEXT of n cells of a SHEET from i on; INDEX: not all cells are there";
        WellBack w = new WellBack();
        int[] cells = new int[60];
        for (int i = 0; i < 60; i++) {
            cells[i] = i < 22 ? 'g' : LONGEST.charAt(i - 22);
        }
        row(w, 0, 0, cells);
        due("to the last cell", w.well(0, 0, 22, 38), 5);
        due("one past it", w.well(0, 0, 22, 39), INDEX);
        due("one past it", w.well(0, 0, 23, 38), INDEX);
        due("one ahead", w.well(0, 0, 21, 38), -101);
        due("the last cell alone", w.well(0, 0, 59, 1), -100);
        due("none at the end", w.well(0, 0, 60, 0), -100);
        due("none past the end", w.well(0, 0, 61, 0), INDEX);
        due("none at the start", w.well(0, 0, 0, 0), -100);
        due("none ahead of the start", w.well(0, 0, -1, 0), INDEX);
        due("all", w.well(0, 0, 0, 60), -101);
        due("one more than all", w.well(0, 0, 0, 61), INDEX);
        due("a sum that wraps", w.well(0, 0, 60, HIGH), INDEX);
        due("a sum that wraps", w.well(0, 0, HIGH, 1), INDEX);
        due("n below 0", w.well(0, 0, 0, -1), SIZE);
        due("n below 0, i past the end", w.well(0, 0, 61, -1), SIZE);
        due("a row of none", w.sheet(1, 0, 0), 1);
        due("none of none", w.well(1, 0, 0, 0), -100);
        due("past none", w.well(1, 0, 1, 0), INDEX);
        due("one of none", w.well(1, 0, 0, 1), INDEX);
        due("ahead of none", w.well(1, 0, -1, 0), INDEX);
    }

    private static void textsInEachLane() {
        sentence = "cells of a SHEET, taken as a row of a LANE; CAST (nothing is no CAST), NULL";
        WellBack w = new WellBack();
        for (int lane = 0; lane < 3; lane++) {
            due("nothing", w.well(lane, lane, 0, 9), NULL);
            row(w, lane, lane, codes("g31;t2011"));
            for (int as = 0; as < 3; as++) {
                due("lane " + lane + " as " + as, w.well(lane, as, 0, 9), as == lane ? 1 : CAST);
            }
            due("lane -1", w.well(lane, -1, 0, 9), OUTSIDE);
            due("lane 3", w.well(lane, 3, 0, 9), OUTSIDE);
        }
    }

    private static void kindsOfThings() {
        sentence = "Kinds: 0 THING (t); 1 LETTER (l), a THING; 2 RING (r), a LETTER";
        WellBack w = by("g00;t0000;l0000;r0000");
        for (int x = 0; x < 3; x++) {
            due("kind", w.ofThing(x, 0), x);
        }
        told("g00;s0000", -104);
        told("g00;u0000", -104);
        told("g00;k0000", -104);
        told("g00;m0000", -104);
        told("g00;q0000", -104);
        told("g00;T0000", -104);
    }

    private static void makesAllAnew() {
        sentence = "A TEXT that is taken makes all anew, but for the SHEETS and TRACE: no READINGS";
        WellBack w = by("g5012340;t0000;l1111;r2222;t3333;l9449");
        row(w, 0, 1, 300, -300);
        w.dig(8);
        w.weigh(0, 7);
        w.hire(0, 4);
        for (int k = 0; k < 8; k++) {
            due("reading", w.reading(k % 5, 0, 0), k);
        }
        due("tell", w.tell(0), 7);
        int trace = w.trace();
        due("a TEXT that is not taken", text(w, "g101;r8230;"), -111);
        due("READINGS stay", w.many(3), 8);
        due("THINGS stay", w.many(0), 5);
        due("places stay", w.many(1), 6);
        due("DEPTH stays", w.many(2), 8);
        due("WEIGHT stays", w.ofThing(0, 1), 7);
        due("hired stays", w.draws(0), 4);
        due("a TEXT that is taken", text(w, "g101;r8230"), 1);
        due("READINGS", w.many(3), 0);
        due("THINGS", w.many(0), 1);
        due("places", w.many(1), 2);
        due("DEPTH", w.many(2), 1);
        due("the second THING is gone", w.ofThing(1, 0), UNKNOWN);
        due("the third place is gone", w.hire(2, 0), UNKNOWN);
        int[] thing = {2, 8, 2, 3, 0, 18};
        for (int what = 0; what < 6; what++) {
            due("ofThing", w.ofThing(0, what), thing[what]);
        }
        due("draws", w.draws(0), 0);
        due("draws", w.draws(2), 0);
        due("TRACE", w.trace(), trace);
        due("SHEET", w.cell(0, 0, 1), 300);
        due("SHEET", w.cell(0, 1, 1), -300);
        due("weights", w.weights(0), 1023);
        due("the first reading again", w.reading(0, 0, 0), 0);
        due("the same TEXT again", w.well(3, 0, 0, 10), 1);
        due("no READINGS", w.back(1), OUTSIDE);
    }

    private static void delays() {
        sentence = "DELAY: of a THING DEPTH and WEIGHT; of a LETTER 1 less (0 at least); of a RING twice what a THING's is";
        WellBack w = by("g01;t0000;l0000;r0000");
        // Of DEPTH, WEIGHT: of each kind.
        int[][] cases = {
            {0, 0, 0, 0, 0}, {0, 1, 1, 0, 2}, {1, 0, 1, 0, 2}, {1, 1, 2, 1, 4}, {0, 2, 2, 1, 4}, {9, 0, 9, 8, 18},
            {0, 9, 9, 8, 18}, {9, 9, 18, 17, 36},
        };
        for (int[] c : cases) {
            w.dig(c[0]);
            for (int x = 0; x < 3; x++) {
                w.weigh(x, c[1]);
                due("DELAY of kind " + x + " by " + c[0] + ", " + c[1], w.ofThing(x, 5), c[2 + x]);
            }
        }
        due("what 6", w.ofThing(0, 6), OUTSIDE);
        due("what -1", w.ofThing(0, -1), OUTSIDE);
    }

    private static void weighed() {
        sentence = "WEIGHT of a THING becomes v (0 .. 9): what it was (READINGS stay)";
        WellBack w = by("g01;t5000;t6000");
        due("reading", w.reading(0, 0, 1), 0);
        due("to 0", w.weigh(0, 0), 5);
        due("to 9", w.weigh(0, 9), 0);
        due("past 9", w.weigh(0, 10), OUTSIDE);
        due("ahead of 0", w.weigh(0, -1), OUTSIDE);
        due("the same", w.weigh(0, 9), 9);
        due("another one stays", w.ofThing(1, 1), 6);
        due("READINGS", w.many(3), 1);
        due("no THING 2", w.weigh(2, 0), UNKNOWN);
        due("no THING -1", w.weigh(-1, 0), UNKNOWN);
    }

    private static void digged() {
        sentence = "DEPTH becomes v (0 .. 9): what it was (READINGS stay). OUTSIDE; STATE: there is no WELL";
        WellBack w = new WellBack();
        due("without a WELL", w.dig(0), STATE);
        due("without a WELL", w.dig(9), STATE);
        due("without a WELL, past 9", w.dig(10), OUTSIDE);
        due("without a WELL, ahead of 0", w.dig(-1), OUTSIDE);
        due("well", text(w, "g51;t5000"), 1);
        due("reading", w.reading(0, 0, 1), 0);
        due("to 0", w.dig(0), 5);
        due("to 9", w.dig(9), 0);
        due("past 9", w.dig(10), OUTSIDE);
        due("ahead of 0", w.dig(-1), OUTSIDE);
        due("DEPTH", w.many(2), 9);
        due("READINGS", w.many(3), 1);
    }

    private static void hired() {
        sentence = "DRAWER k of the ROTA becomes d: who it was. UNKNOWN: there is no place k, no such DRAWER";
        for (int n = 1; n <= 6; n++) {
            WellBack w = by("g0" + "123412".substring(0, n) + ";t0000");
            due("reading", w.reading(0, 0, 1), 0);
            due("the last place", w.hire(n - 1, 0), "123412".charAt(n - 1) - '0');
            due("it draws", w.draws(n - 1), 0);
            due("the first place", w.hire(0, 4), n == 1 ? 0 : 1);
            due("past the last place", w.hire(n, 4), UNKNOWN);
            due("ahead of the first place", w.hire(-1, 4), UNKNOWN);
            due("places", w.many(1), n);
            due("READINGS", w.many(3), 1);
        }
    }

    private static void hoursDrawn() {
        sentence = "Who draws in an HOUR (0 .. 99). STATE: there is no WELL; OUTSIDE";
        WellBack w = by("g001234;t0000");
        due("0", w.draws(0), 0);
        due("99", w.draws(99), 4);
        due("100", w.draws(100), OUTSIDE);
        due("-1", w.draws(-1), OUTSIDE);
        due("without a WELL", new WellBack().draws(0), STATE);
        due("without a WELL", new WellBack().draws(100), STATE);
    }

    // ---- 2 what comes up

    private static void dropIs(WellBack w, int d, int hour, int who, int drawn, int ups) {
        due("who draws it, by " + d + " in " + hour, w.drop(0, d, hour, 0), who);
        due("in which HOUR, by " + d + " in " + hour, w.drop(0, d, hour, 1), drawn);
        due("how often UP, by " + d + " in " + hour, w.drop(0, d, hour, 2), ups);
    }

    private static void hoursOfADrop() {
        sentence = "A THING dropped by a DRAWER in an HOUR (0 .. 99): who, in which HOUR (1), how often UP (2)";
        WellBack w = by("g901;r9000");
        dropIs(w, 1, 0, 0, 36, 1);
        dropIs(w, 0, 99, 1, 135, 1);
        due("hour 100", w.drop(0, 0, 100, 0), OUTSIDE);
        due("hour -1", w.drop(0, 0, -1, 0), OUTSIDE);
        due("what -1", w.drop(0, 0, 0, -1), OUTSIDE);
        due("what 3", w.drop(0, 0, 0, 3), OUTSIDE);
        due("THING 1", w.drop(1, 0, 0, 0), UNKNOWN);
        // The latest of all: sunk five times from 99, each time 35 HOURS long.
        w = by("g9000010;l9000");
        w.dig(9);
        due("DELAY", w.ofThing(0, 5), 17);
        dropIs(w, 0, 99, 1, 99 + 17 * 5, 5);
        // Its OWNER need not be who drops it.
        dropIs(w, 1, 0, 0, 17, 1);
    }

    private static void sinksTillAnother() {
        sentence = "If that is who dropped it, it sinks again at once, and comes UP a DELAY later, till another one draws it";
        // DELAY 1, drawn by 0 0 0 0 0 1: from 4 it is 1 at once, from 5 five times 0 and then 1.
        WellBack w = by("g1000001;t0000");
        for (int hour = 0; hour < 5; hour++) {
            dropIs(w, 0, hour, 1, 5, 5 - hour);
        }
        dropIs(w, 0, 5, 1, 11, 6);
        dropIs(w, 1, 4, 0, 6, 2);
        dropIs(w, 1, 5, 0, 6, 1);
        dropIs(w, 2, 4, 1, 5, 1);
        // DELAY 5 goes the other way round; 6 stays in its place.
        w.weigh(0, 4);
        dropIs(w, 0, 0, 1, 5, 1);
        dropIs(w, 0, 5, 1, 35, 6);
        w.weigh(0, 5);
        dropIs(w, 1, 0, 0, 6, 1);
        dropIs(w, 0, 5, 1, 11, 1);
    }

    private static void neverAnother() {
        sentence = "NONE: there never is another one";
        WellBack w = by("g1000000;t0000");
        dropIs(w, 0, 0, NONE, NONE, NONE);
        dropIs(w, 1, 0, 0, 1, 1);
        // DELAY 0: in its own HOUR, by another one or never.
        w = by("g001;t0000");
        dropIs(w, 0, 0, NONE, NONE, NONE);
        dropIs(w, 0, 1, 1, 1, 1);
        dropIs(w, 1, 0, 0, 0, 1);
        dropIs(w, 1, 99, NONE, NONE, NONE);
        // DELAY 6 of six places; DELAY 3 of six (two places), 2 of six (three places).
        w = by("g6010000;t0000");
        dropIs(w, 1, 1, NONE, NONE, NONE);
        dropIs(w, 0, 1, 1, 7, 1);
        w = by("g3010010;t0000");
        dropIs(w, 1, 1, NONE, NONE, NONE);
        w = by("g2101010;t0000");
        dropIs(w, 1, 0, NONE, NONE, NONE);
        dropIs(w, 0, 1, NONE, NONE, NONE);
        dropIs(w, 0, 0, 1, 2, 1);
    }

    private static void handsFrom0To30() {
        sentence = "HANDS: who has a THING behind k draws (0 .. 30); NONE: it is not drawn so often";
        WellBack w = by("g101234;t0000;t0003");
        for (int k = 0; k <= 30; k++) {
            due("hands " + k, w.hands(0, k), k % 5);
        }
        due("hands 31", w.hands(0, 31), OUTSIDE);
        due("hands -1", w.hands(0, -1), OUTSIDE);
        // From hour 3: up in 4 by 4, in 5 by 0, ..
        due("from its own HOUR", w.hands(1, 1), 4);
        due("from its own HOUR", w.hands(1, 30), 3);
        w = by("g10;t0000;t0100");
        due("never drawn, behind 0", w.hands(0, 0), 0);
        due("never drawn, behind 1", w.hands(0, 1), NONE);
        due("never drawn, behind 30", w.hands(0, 30), NONE);
        due("drawn once, behind 0", w.hands(1, 0), 1);
        due("drawn once, behind 1", w.hands(1, 1), 0);
        due("drawn once, behind 2", w.hands(1, 2), NONE);
        due("drawn once, behind 30", w.hands(1, 30), NONE);
        due("drawn once, behind 31", w.hands(1, 31), OUTSIDE);
    }

    private static void homeFrom1To30() {
        sentence = "HOME: the fewest such draws (1 to 30) behind which its OWNER has it again; NONE";
        due("two", by("g101;t0000").home(0), 2);
        due("three", by("g1012;t0000").home(0), 3);
        due("six, dropped in the OWNER's place", by("g1121210;t0005").home(0), 6);
        due("two, dropped out of the OWNER's place", by("g1121210;t0003").home(0), 2);
        due("one behind sinking", by("g1000001;t0005").home(0), 2);
        due("never drawn", by("g10;t0000").home(0), NONE);
        due("drawn once", by("g10;t0100").home(0), NONE);
        due("drawn on and on, not by its OWNER", by("g1121212;t0000").home(0), NONE);
        due("by three places of six", by("g2121310;t0001").home(0), 2);
        due("drawn once in the other three", by("g2121310;t0000").home(0), NONE);
        due("its OWNER is in the other three", by("g2120313;t0001").home(0), NONE);
    }

    private static void meetsAll() {
        sentence = "MEETS: all DRAWERS who ever have it, however often it is dropped (its OWNER, too), as a set";
        due("its OWNER alone", by("g10;t0000").meets(0), set(0));
        due("its OWNER, never drawn by them", by("g10;t0400").meets(0), set(0, 4));
        due("all", by("g101234;t0000").meets(0), set(0, 1, 2, 3, 4));
        due("all, the last one behind six draws", by("g1121310;t0005").meets(0), set(0, 1, 2, 3));
        due("the sixth place", by("g1121213;t0005").meets(0), set(0, 1, 2, 3));
        due("three places", by("g2142310;t0001").meets(0), set(0, 3, 4));
        due("the other three", by("g2142310;t0002").meets(0), set(0, 1, 2));
    }

    private static void hoursTold0To23() {
        sentence = "for each THING an HOUR 0 .. 23; OUTSIDE: a cell is no HOUR 0 .. 23";
        WellBack w = by("g101;t0009;t0108");
        for (int lane = 0; lane < 3; lane++) {
            row(w, lane, lane, 0, 23, 24, -1, 23, 0);
            due("0, 23", w.hours(lane, lane, 0, 2, 1), 24);
            due("23, 0", w.hours(lane, lane, 4, 2, 1), 25);
            due("23, 24", w.hours(lane, lane, 1, 2, 0), OUTSIDE);
            due("24, -1", w.hours(lane, lane, 2, 2, 0), OUTSIDE);
            due("-1, 23", w.hours(lane, lane, 3, 2, 0), OUTSIDE);
            due("their own HOURS stay", w.ofThing(0, 4), 9);
            due("their own HOURS stay", w.ofThing(1, 4), 8);
        }
        row(w, 2, 2, LOW, 0, HIGH);
        due("LOW", w.hours(2, 2, 0, 2, 0), OUTSIDE);
        due("HIGH", w.hours(2, 2, 1, 2, 0), OUTSIDE);
        // Bytes are cut as they are put: 256 and 23 are 23; 128 is -128.
        row(w, 0, 0, 256, 279, 128);
        due("cut to HOURS", w.hours(0, 0, 0, 2, 1), 24);
        due("cut below", w.hours(0, 0, 1, 2, 1), OUTSIDE);
    }

    private static void asManyHoursAsThings() {
        sentence = "OUTSIDE: n is not how many THINGS there are; INDEX of cells from i on; STATE: there is no WELL";
        WellBack w = new WellBack();
        row(w, 0, 0, 1, 2, 3, 4, 5, 6);
        due("no WELL", w.hours(0, 0, 0, 0, 0), STATE);
        due("no WELL", w.hours(0, 0, 6, 0, 0), STATE);
        due("no WELL, past the end", w.hours(0, 0, 7, 0, 0), INDEX);
        StringBuilder s = new StringBuilder("g01");
        for (int n = 1; n <= 5; n++) {
            s.append(";t0010");
            due("well", text(w, s.toString()), n);
            due("as many", w.hours(0, 0, 0, n, 0), (1 << n) - 1);
            due("as many, to the last cell", w.hours(0, 0, 6 - n, n, 0), (1 << n) - 1);
            due("one past the last cell", w.hours(0, 0, 7 - n, n, 0), INDEX);
            due("one fewer", w.hours(0, 0, 0, n - 1, 0), OUTSIDE);
            due("one more", w.hours(0, 0, 0, n + 1, 0), OUTSIDE);
            due("none at the end", w.hours(0, 0, 6, 0, 0), OUTSIDE);
            due("none past the end", w.hours(0, 0, 7, 0, 0), INDEX);
            due("none ahead", w.hours(0, 0, -1, 0, 0), INDEX);
            due("a sum that wraps", w.hours(0, 0, 6, HIGH, 0), INDEX);
            due("below 0", w.hours(0, 0, 0, -1, 0), SIZE);
            due("below 0, past the end", w.hours(0, 0, 7, -1, 0), SIZE);
        }
    }

    private static void whatOfHours() {
        sentence = "what (0 .. 2, 10 .. 14): who draws THING x (10 and x; NONE: nobody, there is no such THING)";
        WellBack w = by("g012;t0000;t0110;t0220;t0330;t0440");
        row(w, 0, 0, 0, 1, 0, 1, 1);
        int[] who = {1, 2, 1, 2, 2};
        for (int x = 0; x < 5; x++) {
            due("THING " + x, w.hours(0, 0, 0, 5, 10 + x), who[x]);
        }
        for (int what : new int[] {-1, 3, 9, 15}) {
            due("what " + what, w.hours(0, 0, 0, 5, what), OUTSIDE);
        }
        due("well", text(w, "g012;t0000;t0110;t0220;t0330"), 4);
        due("the last THING", w.hours(0, 0, 0, 4, 13), 2);
        due("no such THING", w.hours(0, 0, 0, 4, 14), NONE);
        due("well", text(w, "g012;t0110"), 1);
        due("nobody", w.hours(0, 0, 0, 1, 10), NONE);
        due("no such THING", w.hours(0, 0, 0, 1, 11), NONE);
        due("no such THING", w.hours(0, 0, 0, 1, 14), NONE);
    }

    private static void latestHour() {
        sentence = "the latest HOUR in which one of all THINGS is drawn (1; NONE: none is)";
        WellBack w = by("g01;t0100;t0100;t9000");
        row(w, 0, 0, 0, 23, 5);
        due("the one that is drawn", w.hours(0, 0, 0, 3, 1), 14);
        w.hire(0, 0);
        due("the two that are", w.hours(0, 0, 0, 3, 1), 23);
        due("well", text(w, "g00;t0100"), 1);
        row(w, 0, 0, 0);
        due("in HOUR 0", w.hours(0, 0, 0, 1, 1), 0);
        w.hire(0, 1);
        due("none is", w.hours(0, 0, 0, 1, 1), NONE);
        due("well", text(w, "g9000010;r9000"), 1);
        row(w, 0, 0, 23);
        due("never in an even place", w.hours(0, 0, 0, 1, 1), NONE);
        w.hire(5, 1);
        // From 23 (place 5) it is up in 59, place 5.
        due("the latest", w.hours(0, 0, 0, 1, 1), 59);
    }

    private static void mostOfThem() {
        sentence = "the DRAWER who draws the most of them (2; of several the least; NONE: none is drawn)";
        WellBack w = by("g001234;t0100;t0100;t0000;t0000;t0000");
        row(w, 0, 0, 4, 4, 3, 3, 0);
        due("two each: the least", w.hours(0, 0, 0, 5, 2), 3);
        row(w, 0, 0, 4, 4, 4, 3, 3);
        due("three of 4", w.hours(0, 0, 0, 5, 2), 4);
        row(w, 0, 0, 1, 1, 0, 0, 0);
        due("none is drawn", w.hours(0, 0, 0, 5, 2), NONE);
        row(w, 0, 0, 1, 0, 0, 0, 0);
        due("DRAWER 0, one alone", w.hours(0, 0, 0, 5, 2), 0);
        row(w, 0, 0, 1, 1, 0, 0, 4);
        due("DRAWER 4, one alone", w.hours(0, 0, 0, 5, 2), 4);
        row(w, 0, 0, 0, 2, 1, 4, 3);
        due("one each: the least", w.hours(0, 0, 0, 5, 2), 0);
    }

    // ---- 3 when, the rota

    private static void leastHour() {
        sentence = "WHEN: the least HOUR 0 to 23 so that this one draws it; NONE";
        // DELAY 6: up in its own place.
        WellBack w = by("g6012341;t0000");
        due("in 0 never, by its OWNER", w.when(0, 0), NONE);
        for (int d = 1; d < 5; d++) {
            due("the least of them", w.when(0, d), d);
        }
        w = by("g6112340;t0000;t0400");
        due("HOUR 0", w.when(0, 1), 0);
        due("HOUR 5", w.when(1, 0), 5);
        due("another OWNER", w.when(1, 4), NONE);
        due("not in the ROTA", by("g6000001;t0000").when(0, 2), NONE);
        due("the last place", by("g6000001;t0000").when(0, 1), 5);
        due("not by its own HOUR", by("g6000001;t0009").when(0, 1), 5);
        due("sunk five times", by("g1000001;t0000").when(0, 1), 0);
        due("never drawn", by("g10;t0000").when(0, 0), NONE);
    }

    private static void aGoalThatIsTheOwner() {
        sentence = "RIGHT is a THING that its GOAL draws; HANDS: draws by another one than who dropped it";
        WellBack w = by("g101;t0000;t0001");
        row(w, 0, 0, 0, 1);
        due("hours", w.hours(0, 0, 0, 2, 0), 0);
        due("odds", w.odds(0, 0), 0);
        due("odds", w.odds(0, 1), 1);
        due("best", w.best(-1), 0);
        due("when", w.when(0, 0), NONE);
    }

    private static void bestIs(String text, int right, String rota) {
        WellBack w = by(text);
        due("best of " + text, w.best(-1), right);
        for (int k = 0; k < 6; k++) {
            due("place " + k + " of " + text, w.best(k), k < rota.length() ? rota.charAt(k) - '0' : NONE);
        }
        for (int k = 0; k < rota.length(); k++) {
            due("the ROTA stays", w.draws(k), text.charAt(2 + k) - '0');
        }
    }

    private static void firstAsARow() {
        sentence = "BEST: in another order (or the same) by which most THINGS are RIGHT: of several the first as a row";
        bestIs("g13;t0030", 1, "3");
        bestIs("g13;t0300", 0, "3");
        bestIs("g143210;t0000", 0, "01234");
        bestIs("g143210;t0040;t4000", 1, "04123");
        // DELAY 6: each up in its own place, OWNER 4 is not in the ROTA.
        bestIs("g6332210;t0410", 1, "102233");
        bestIs("g6332210;t0410;t0421;t0432;t0433;t0424", 5, "123320");
        bestIs("g6012330;t0430;t0421;t0412;t0403;t0404", 5, "321003");
        bestIs("g6012330;t0400;t0401;t0412;t0423;t0434", 5, "001233");
        bestIs("g6332100;t0400;t0411;t0422;t0433;t0434", 5, "012330");
        // Three want place 0, two of them the same: two are RIGHT.
        bestIs("g6332100;t0400;t0420;t0420", 2, "200133");
        // Nothing can come to a DRAWER who is not in the ROTA.
        bestIs("g6332100;t0440", 0, "001233");
    }

    private static void placesOfBest() {
        sentence = "how many are RIGHT (k -1), DRAWER k of the ROTA (0 .. 5); NONE: there is no such place";
        for (int n = 1; n <= 6; n++) {
            WellBack w = by("g0" + "432104".substring(0, n) + ";t0000");
            due("the last place", w.best(n - 1), 4);
            due("past the last place", w.best(n), n == 6 ? OUTSIDE : NONE);
            due("place 5", w.best(5), n == 6 ? 4 : NONE);
            due("6", w.best(6), OUTSIDE);
            due("-1", w.best(-1), 0);
            due("-2", w.best(-2), OUTSIDE);
        }
        due("no WELL", new WellBack().best(-1), STATE);
        due("no WELL", new WellBack().best(6), STATE);
    }

    // ---- 4 who drew what

    private static void eightAtMost() {
        sentence = "READINGS, 8 at most, numbered by how many there are ahead (the first one is 0)";
        WellBack w = by("g01;t0000");
        due("empty", w.many(3), 0);
        for (int k = 0; k < 8; k++) {
            due("reading", w.reading(0, 0, 1), k);
            due("many", w.many(3), k + 1);
        }
        due("the ninth", w.reading(0, 0, 1), FULL);
        due("the ninth, hour past 23", w.reading(0, 24, 1), OUTSIDE);
        due("the ninth, of no DRAWER", w.reading(0, 24, 5), UNKNOWN);
        due("many", w.many(3), 8);
        due("one back", w.back(1), 7);
        due("the eighth again", w.reading(0, 0, 1), 7);
        due("the ninth again", w.reading(0, 0, 1), FULL);
        due("the eighth counts", w.weights(0), 1023);
        due("one back", w.back(1), 7);
        due("the eighth again", w.reading(0, 0, 0), 7);
        due("the eighth counts", w.weights(0), 0);
        due("all back", w.back(8), 0);
        due("the first again", w.reading(0, 0, 0), 0);
        due("the first counts", w.weights(0), 0);
    }

    private static void hoursOfReadings() {
        sentence = "OUTSIDE: hour (0 .. 23)";
        // DELAY 6: up in its own place.
        WellBack w = by("g6122223;t0000");
        due("-1", w.reading(0, -1, 1), OUTSIDE);
        due("24", w.reading(0, 24, 1), OUTSIDE);
        due("LOW", w.reading(0, LOW, 1), OUTSIDE);
        due("HIGH", w.reading(0, HIGH, 1), OUTSIDE);
        due("0", w.reading(0, 0, 1), 0);
        // A LETTER's DELAY is 5: from 0 it is up in 5 by 3, from 23 in 28 by 2.
        due("is so", w.kinds(0), set(0, 2));
        due("23", w.reading(0, 23, 3), 1);
        due("are so", w.kinds(0), set(0, 2));
        due("the least, by 3", w.reading(0, 0, 3), 2);
        due("are not so", w.kinds(0), 0);
    }

    private static void byNobody() {
        sentence = "was drawn by a DRAWER (NONE: by nobody, ever)";
        WellBack w = by("g00001;t0000");
        // Odd DELAYS come to place 3, even ones never do.
        due("nobody", w.reading(0, 0, NONE), 0);
        due("weights", w.weights(0), set(0, 2, 4, 6, 8));
        due("depths", w.depths(), set(0, 2, 4, 6, 8));
        due("kinds", w.kinds(0), 7);
        due("back", w.back(1), 0);
        due("1", w.reading(0, 0, 1), 0);
        due("weights", w.weights(0), set(1, 3, 5, 7, 9));
        due("back", w.back(1), 0);
        due("its OWNER, who never draws it", w.reading(0, 0, 0), 0);
        due("weights", w.weights(0), 0);
        due("kinds", w.kinds(0), 0);
        due("depths", w.depths(), 0);
    }

    private static void takenBack() {
        sentence = "The last k READINGS (0 .. as many as there are) are taken back: how many are left";
        WellBack w = new WellBack();
        due("none, without a WELL", w.back(0), 0);
        due("one, without a WELL", w.back(1), OUTSIDE);
        due("well", text(w, "g01;t0000"), 1);
        due("none of none", w.back(0), 0);
        due("one of none", w.back(1), OUTSIDE);
        for (int many = 1; many <= 8; many++) {
            for (int k = 0; k < many; k++) {
                due("reading", w.reading(0, 0, 1), k);
            }
            due("one too many", w.back(many + 1), OUTSIDE);
            due("below 0", w.back(-1), OUTSIDE);
            due("LOW", w.back(LOW), OUTSIDE);
            due("none", w.back(0), many);
            due("all but one", w.back(many - 1), 1);
            due("the one", w.back(1), 0);
        }
        due("reading", w.reading(0, 0, 1), 0);
        due("reading that is not so", w.reading(0, 0, 2), 1);
        due("the last one goes", w.back(1), 1);
        due("the first one stays", w.weights(0), 1023);
    }

    private static void setsWithoutReadings() {
        sentence = "WEIGHTS: 0 .. 9; KINDS: 0 .. 2; DEPTHS: 0 .. 9 (no READINGS: all)";
        WellBack w = by("g01;t0000;r9000");
        for (int x = 0; x < 2; x++) {
            due("weights", w.weights(x), 1023);
            due("kinds", w.kinds(x), 7);
        }
        due("depths", w.depths(), 1023);
        due("past the last THING", w.weights(2), UNKNOWN);
        due("past the last THING", w.kinds(2), UNKNOWN);
        due("no WELL", new WellBack().depths(), STATE);
        due("no WELL", new WellBack().weights(0), UNKNOWN);
        due("no WELL", new WellBack().kinds(0), UNKNOWN);
    }

    private static void setsAtTheirEnds() {
        sentence = "in place of what it is alone, by which all READINGS are so: 0 .. 9, 0 .. 2, 0 .. 9";
        // OWNER 0; six places: a DELAY of 0, 6 leaves it with who draws in its HOUR.
        WellBack w = by("g0123412;t0000;r0000");
        due("in 0 by 1", w.reading(0, 0, 1), 0);
        due("in 1 by 2", w.reading(0, 1, 2), 1);
        due("in 2 by 3", w.reading(0, 2, 3), 2);
        due("WEIGHTS 0, 6", w.weights(0), set(0, 6));
        due("of another one", w.weights(1), 1023);
        due("KINDS", w.kinds(0), 7);
        due("DEPTHS 0, 6", w.depths(), set(0, 6));
        w.back(3);
        // A DELAY of 3, 9.
        due("in 0 by 4", w.reading(0, 0, 4), 0);
        due("in 1 by 1", w.reading(0, 1, 1), 1);
        due("in 2 by 2", w.reading(0, 2, 2), 2);
        due("WEIGHTS 3, 9", w.weights(0), set(3, 9));
        due("DEPTHS 3, 9", w.depths(), set(3, 9));
        w.weigh(0, 3);
        // DELAYS 3, 2, 6.
        due("KINDS: THING alone", w.kinds(0), set(0));
        due("DEPTHS 0, 6", w.depths(), set(0, 6));
        w.weigh(0, 4);
        // DELAYS 4, 3, 8.
        due("KINDS: LETTER alone", w.kinds(0), set(1));
        due("of another one", w.kinds(1), 0);
        w.dig(9);
        w.weigh(0, 0);
        // DELAYS 9, 8, 18.
        due("KINDS: THING alone", w.kinds(0), set(0));
        due("WEIGHTS 0, 6", w.weights(0), set(0, 6));
        w.back(3);
        due("in 0 by 1", w.reading(0, 0, 1), 0);
        due("in 3 by 4", w.reading(0, 3, 4), 1);
        due("KINDS: RING alone", w.kinds(0), set(2));
        due("WEIGHTS 3, 9", w.weights(0), set(3, 9));
    }

    private static void setsThatAreEmpty() {
        sentence = "by which all READINGS (of other THINGS, too) are so";
        WellBack w = by("g001;t0000;t0000");
        // DELAY 0: in 0 never, in 1 by 1.
        due("reading", w.reading(1, 1, 1), 0);
        due("another one's is so", w.weights(0), 1023);
        due("another one's is so", w.kinds(0), 7);
        due("reading", w.reading(1, 1, NONE), 1);
        due("at odds", w.weights(0), 0);
        due("at odds", w.weights(1), 0);
        due("at odds", w.kinds(0), 0);
        due("at odds", w.kinds(1), 0);
        due("at odds", w.depths(), 0);
        due("back", w.back(2), 0);
        due("reading", w.reading(0, 0, NONE), 0);
        due("reading", w.reading(1, 0, 1), 1);
        // Of THING 0 even DELAYS, of THING 1 odd ones: THING 1 alone cannot be at fault for both.
        due("another one's is not so", w.weights(0), 0);
        due("its own is mended", w.weights(1), set(1, 3, 5, 7, 9));
        due("DEPTHS move both", w.depths(), 0);
        w.weigh(1, 1);
        due("DEPTHS move both", w.depths(), set(0, 2, 4, 6, 8));
        due("KINDS: of a LETTER's and a RING's DELAYS 0, 2", w.kinds(1), set(0));
    }

    private static void byHowAllIsWhenAsked() {
        sentence = "All that follows (by how all is when it is asked)";
        WellBack w = by("g001;t0000;t0010");
        due("reading", w.reading(0, 1, 1), 0);
        due("weights", w.weights(0), 1023);
        due("odds", w.odds(1, 1), 2);
        w.hire(1, 2);
        due("hired", w.weights(0), 0);
        due("hired", w.kinds(0), 0);
        due("hired", w.depths(), 0);
        due("hired", w.odds(1, 0), 0);
        w.hire(1, 1);
        due("hired back", w.depths(), 1023);
        due("hired back", w.odds(1, 0), 1);
        due("reading", w.reading(0, 0, 1), 1);
        due("odd ones", w.weights(0), set(1, 3, 5, 7, 9));
        w.dig(1);
        due("dug", w.weights(0), set(0, 2, 4, 6, 8));
        due("dug: always", w.odds(1, 1), 1);
        due("dug", w.kinds(0), set(0));
        w.weigh(0, 1);
        due("weighed", w.kinds(0), set(1));
        due("weighed", w.depths(), set(0, 2, 4, 6, 8));
    }

    private static void hours0To11() {
        sentence = "ODDS: in one of the HOURS 0 to 11, all alike (which 0 the upper, 1 the lower number)";
        // Five places, DELAY 5: place 0 in the HOURS 0, 5, 10 (not 15); place 1 in 1, 6, 11; place 2 in 2, 7 (not 12).
        due("place 0", by("g512222;t0410").odds(0, 1), 4);
        due("place 1", by("g521222;t0410").odds(0, 1), 4);
        due("place 2", by("g522122;t0410").odds(0, 1), 6);
        due("place 4", by("g522221;t0410").odds(0, 1), 6);
        WellBack w = by("g512222;t0419");
        due("not by its own HOUR", w.odds(0, 0), 1);
        due("which -1", w.odds(0, -1), WellBack.LOST);
        due("which 2", w.odds(0, 2), WellBack.LOST);
        due("THING -1", w.odds(-1, 0), WellBack.LOST);
        due("THING 1", w.odds(1, 0), WellBack.LOST);
        due("no WELL", new WellBack().odds(0, 0), WellBack.LOST);
    }

    // ---- 5 sheets, parts

    private static void sheets0To3() {
        sentence = "SHEETS 0 .. 3 have nothing (at first)";
        WellBack w = new WellBack();
        for (int k : new int[] {-1, 4}) {
            due("sheet", w.sheet(k, 0, 1), UNKNOWN);
            due("lose", w.lose(k), UNKNOWN);
            due("put", w.put(k, 0, 1), UNKNOWN);
            due("cell", w.cell(k, 0, 0), WellBack.LOST);
            due("copy", w.copy(k, 0, 0, 0, 0), UNKNOWN);
            due("copy", w.copy(0, 0, k, 0, 0), UNKNOWN);
            due("well", w.well(k, 0, 0, 0), UNKNOWN);
            due("hours", w.hours(k, 0, 0, 0, 0), UNKNOWN);
        }
        for (int k = 0; k < 4; k++) {
            due("sheet", w.sheet(k, 0, 1), 1);
            due("put", w.put(k, 0, 10 + k), 1);
        }
        for (int k = 0; k < 4; k++) {
            due("cell", w.cell(k, 0, 0), 10 + k);
        }
        due("copy", w.copy(3, 0, 0, 0, 1), 1);
        due("cell", w.cell(0, 0, 0), 13);
        due("lose", w.lose(3), 1);
        due("the others stay", w.cell(2, 0, 0), 12);
    }

    private static void rowsOf0To60() {
        sentence = "a row of 0 .. 60 numbers (0 at first); OUTSIDE: lane, n above 60; SIZE";
        WellBack w = new WellBack();
        for (int lane = 0; lane < 3; lane++) {
            due("60", w.sheet(lane, lane, 60), 1);
            for (int i = 0; i < 60; i++) {
                due("0 at first", w.cell(lane, i, lane), 0);
            }
            due("cell -1", w.cell(lane, -1, lane), WellBack.LOST);
            due("cell 60", w.cell(lane, 60, lane), WellBack.LOST);
            due("put 0", w.put(lane, 0, 5), 1);
            due("put 59", w.put(lane, 59, 6), 1);
            due("put -1", w.put(lane, -1, 7), INDEX);
            due("put 60", w.put(lane, 60, 7), INDEX);
            due("cell 0", w.cell(lane, 0, lane), 5);
            due("cell 59", w.cell(lane, 59, lane), 6);
            due("61", w.sheet(lane, lane, 61), OUTSIDE);
            due("-1", w.sheet(lane, lane, -1), SIZE);
            due("it stays", w.cell(lane, 59, lane), 6);
            due("0", w.sheet(lane, lane, 0), 1);
            due("cell 0 of none", w.cell(lane, 0, lane), WellBack.LOST);
            due("INDEX", w.fault(), 3);
            due("put 0 of none", w.put(lane, 0, 1), INDEX);
            due("1", w.sheet(lane, lane, 1), 1);
            due("cell 0 of one", w.cell(lane, 0, lane), 0);
            due("cell 1 of one", w.cell(lane, 1, lane), WellBack.LOST);
            due("put 1 of one", w.put(lane, 1, 1), INDEX);
        }
    }

    private static void lanes0To2() {
        sentence = "a LANE: 0 bytes, 1 shorts, 2 ints; OUTSIDE: lane";
        WellBack w = new WellBack();
        due("-1", w.sheet(0, -1, 1), OUTSIDE);
        due("3", w.sheet(0, 3, 1), OUTSIDE);
        due("nothing came", w.lose(0), 0);
        for (int lane = 0; lane < 3; lane++) {
            due("sheet", w.sheet(0, lane, 1), 1);
            for (int as = 0; as < 3; as++) {
                due("cell", w.cell(0, 0, as), as == lane ? 0 : WellBack.LOST);
                due("CAST", w.fault(), as == lane ? 0 : 2);
            }
            due("cell as -1", w.cell(0, 0, -1), WellBack.LOST);
            due("a refusal", w.fault(), 0);
            due("cell as 3", w.cell(0, 0, 3), WellBack.LOST);
            due("a refusal", w.fault(), 0);
        }
    }

    private static void cutToItsLane() {
        sentence = "what comes to a cell of it is cut to its LANE (with its sign)";
        int[] values = {
            127, 128, 255, 256, -128, -129, -256, -257, 32767, 32768, 65535, 65536, -32768, -32769, -65536, -65537,
            HIGH, LOW, -1,
        };
        int[][] cut = {
            {127, -128, -1, 0, -128, 127, 0, -1, -1, 0, -1, 0, 0, -1, 0, -1, -1, 0, -1},
            {127, 128, 255, 256, -128, -129, -256, -257, 32767, -32768, -1, 0, -32768, 32767, 0, -1, -1, 0, -1},
            values,
        };
        for (int lane = 0; lane < 3; lane++) {
            WellBack w = new WellBack();
            row(w, 0, lane, values);
            due("a row of as many", w.sheet(1, lane, values.length), 1);
            due("copy", w.copy(0, 0, 1, 0, values.length), values.length);
            for (int i = 0; i < values.length; i++) {
                due("lane " + lane + " of " + values[i], w.cell(0, i, lane), cut[lane][i]);
                due("copied, lane " + lane + " of " + values[i], w.cell(1, i, lane), cut[lane][i]);
            }
        }
    }

    private static void aNewRow() {
        sentence = "A SHEET gets a new row: 1 (0 at first)";
        WellBack w = new WellBack();
        row(w, 0, 2, 70000, 70001, 70002);
        due("a shorter one of another LANE", w.sheet(0, 0, 2), 1);
        due("cell", w.cell(0, 0, 0), 0);
        due("cell", w.cell(0, 1, 0), 0);
        due("cell 2", w.put(0, 2, 0), INDEX);
        due("put", w.put(0, 0, 300), 1);
        due("a longer one of the LANE ahead", w.sheet(0, 2, 4), 1);
        for (int i = 0; i < 4; i++) {
            due("cell", w.cell(0, i, 2), 0);
        }
        due("put", w.put(0, 0, 300), 1);
        due("cell", w.cell(0, 0, 2), 300);
        due("lose", w.lose(0), 1);
        due("the same again", w.sheet(0, 2, 4), 1);
        due("cell", w.cell(0, 0, 2), 0);
    }

    private static void loseNothing() {
        sentence = "A SHEET has nothing: 1; 0: it had nothing";
        WellBack w = new WellBack();
        due("nothing", w.lose(0), 0);
        due("a row of none", w.sheet(0, 0, 0), 1);
        due("had it", w.lose(0), 1);
        due("nothing", w.lose(0), 0);
        due("a row of 60", w.sheet(0, 2, 60), 1);
        due("had it", w.lose(0), 1);
        due("put", w.put(0, 0, 1), NULL);
        due("cell", w.cell(0, 0, 2), WellBack.LOST);
        due("NULL", w.fault(), 1);
        due("no CAST either", w.cell(0, 0, 0), WellBack.LOST);
        due("NULL", w.fault(), 1);
    }

    private static void copyAtTheEnds() {
        sentence = "n cells of a SHEET from i on go to another one from j on: n. INDEX: i, j, n below 0 or beyond";
        WellBack w = new WellBack();
        due("60", w.sheet(0, 1, 60), 1);
        due("60", w.sheet(1, 1, 60), 1);
        due("0", w.sheet(2, 1, 0), 1);
        due("put", w.put(0, 0, 500), 1);
        due("put", w.put(0, 59, -500), 1);
        due("all", w.copy(0, 0, 1, 0, 60), 60);
        due("cell", w.cell(1, 0, 1), 500);
        due("cell", w.cell(1, 59, 1), -500);
        due("one more than all", w.copy(0, 0, 1, 0, 61), INDEX);
        due("one later", w.copy(0, 1, 1, 0, 60), INDEX);
        due("one later", w.copy(0, 0, 1, 1, 60), INDEX);
        due("the last to the first", w.copy(0, 59, 1, 0, 1), 1);
        due("cell", w.cell(1, 0, 1), -500);
        due("the first to the last", w.copy(0, 0, 1, 59, 1), 1);
        due("cell", w.cell(1, 59, 1), 500);
        due("past the last", w.copy(0, 60, 1, 0, 1), INDEX);
        due("past the last", w.copy(0, 0, 1, 60, 1), INDEX);
        due("none at the end", w.copy(0, 60, 1, 60, 0), 0);
        due("none past the end", w.copy(0, 61, 1, 0, 0), INDEX);
        due("none past the end", w.copy(0, 0, 1, 61, 0), INDEX);
        due("none ahead", w.copy(0, -1, 1, 0, 0), INDEX);
        due("none ahead", w.copy(0, 0, 1, -1, 0), INDEX);
        due("below none", w.copy(0, 0, 1, 0, -1), INDEX);
        due("none of none", w.copy(2, 0, 2, 0, 0), 0);
        due("none to none", w.copy(0, 60, 2, 0, 0), 0);
        due("one of none", w.copy(2, 0, 0, 0, 1), INDEX);
        due("one to none", w.copy(0, 0, 2, 0, 1), INDEX);
        due("none past none", w.copy(0, 0, 2, 1, 0), INDEX);
        due("a sum that wraps", w.copy(0, 1, 1, 0, HIGH), INDEX);
        due("a sum that wraps", w.copy(0, 0, 1, 1, HIGH), INDEX);
        due("LOW", w.copy(0, 0, 1, 0, LOW), INDEX);
        due("nothing", w.copy(0, 0, 3, 0, 0), NULL);
        due("of nothing", w.copy(3, 0, 0, 0, 0), NULL);
        due("CAST", w.sheet(3, 0, 60), 1);
        due("unlike LANES", w.copy(0, 0, 3, 0, 0), CAST);
        due("unlike LANES", w.copy(3, 0, 0, 0, 0), CAST);
    }

    private static void copyInTheSame() {
        sentence = "(perhaps the same) as they were";
        for (int lane = 0; lane < 3; lane++) {
            WellBack w = new WellBack();
            row(w, 0, lane, 1, 2, 3, 4, 5);
            due("one on", w.copy(0, 0, 0, 1, 4), 4);
            cellsAre(w, lane, 1, 1, 2, 3, 4);
            row(w, 0, lane, 1, 2, 3, 4, 5);
            due("one back", w.copy(0, 1, 0, 0, 4), 4);
            cellsAre(w, lane, 2, 3, 4, 5, 5);
            row(w, 0, lane, 1, 2, 3, 4, 5);
            due("onto itself", w.copy(0, 0, 0, 0, 5), 5);
            cellsAre(w, lane, 1, 2, 3, 4, 5);
            due("none", w.copy(0, 5, 0, 0, 0), 0);
            cellsAre(w, lane, 1, 2, 3, 4, 5);
        }
    }

    private static void cellsAre(WellBack w, int lane, int... want) {
        for (int i = 0; i < want.length; i++) {
            due("cell " + i, w.cell(0, i, lane), want[i]);
        }
    }

    private static void tellings() {
        sentence = "THING (1): WEIGHT. LETTER (2): and 100. RING (3): what LETTER's gives, and what THING's gives";
        WellBack w = by("g01;t0000;l0000;r0000");
        int[][] want = {{0, 100, 100}, {9, 109, 118}};
        int trace = 0;
        int[][] bodies = {{1}, {2, 1}, {3, 2, 1, 1}};
        for (int heavy = 0; heavy < 2; heavy++) {
            for (int x = 0; x < 3; x++) {
                w.weigh(x, 9 * heavy);
                due("tell", w.tell(x), want[heavy][x]);
                for (int body : bodies[x]) {
                    trace = 31 * trace + body;
                }
                due("trace", w.trace(), trace);
            }
        }
        due("no THING 3", w.tell(3), UNKNOWN);
        due("no THING -1", w.tell(-1), UNKNOWN);
        due("trace", w.trace(), trace);
    }

    private static void splashes() {
        sentence = "SPLASHED by a lent body (4): the THING's number; RINGS have their own (5): 80";
        WellBack w = by("g01;t9000;r9000;l9000;r9000;l9000");
        int[] want = {0, 80, 2, 80, 4};
        int trace = 0;
        for (int x = 0; x < 5; x++) {
            due("splash", w.splash(x), want[x]);
            trace = 31 * trace + (want[x] == 80 ? 5 : 4);
            due("trace", w.trace(), trace);
        }
        due("no THING 5", w.splash(5), UNKNOWN);
        due("no THING -1", w.splash(-1), UNKNOWN);
        due("trace", w.trace(), trace);
    }

    private static void traceWraps() {
        sentence = "TRACE (an int that wraps, 0 at first, becomes 31 times it and the number)";
        WellBack w = by("g01;t0000");
        int[] want = {4, 128, 3972, 123136, 3817220, 118333824, -626618748, 2049655296};
        due("at first", w.trace(), 0);
        for (int k = 0; k < want.length; k++) {
            due("splash", w.splash(0), 0);
            due("trace", w.trace(), want[k]);
        }
    }

    private static void takenAsKinds() {
        sentence = "A THING, taken as one of a kind: 1. CAST: it is none (each is a THING, too; a RING is a LETTER)";
        WellBack w = by("g01;t0000;l0000;r0000");
        int[][] want = {{1, CAST, CAST}, {1, 1, CAST}, {1, 1, 1}};
        for (int x = 0; x < 3; x++) {
            for (int kind = 0; kind < 3; kind++) {
                due("as", w.as(x, kind), want[x][kind]);
                due("fault", w.fault(), want[x][kind] == 1 ? 0 : 2);
            }
            due("kind -1", w.as(x, -1), OUTSIDE);
            due("kind 3", w.as(x, 3), OUTSIDE);
        }
        due("no THING 3", w.as(3, 0), UNKNOWN);
        due("no THING -1", w.as(-1, 0), UNKNOWN);
    }

    private static void faultOfTheLatest() {
        sentence = "The FAULT of the latest call that names one: 0: it came to none, or was refused (0 ahead of any)";
        WellBack w = new WellBack();
        due("ahead of any", w.fault(), 0);
        due("NULL", w.put(0, 0, 0), NULL);
        due("1", w.fault(), 1);
        due("sheet", w.sheet(0, 0, 1), 1);
        due("came to none", w.fault(), 0);
        due("CAST", w.cell(0, 0, 1), WellBack.LOST);
        due("2", w.fault(), 2);
        due("refused", w.put(4, 0, 0), UNKNOWN);
        due("0", w.fault(), 0);
        due("INDEX", w.put(0, 1, 0), INDEX);
        due("3", w.fault(), 3);
        due("names none", w.lose(1), 0);
        due("names none", w.many(0), 0);
        due("names none", w.draws(0), STATE);
        due("still 3", w.fault(), 3);
        due("SIZE", w.sheet(0, 0, -1), SIZE);
        due("4", w.fault(), 4);
        due("another FAULT", w.copy(1, 0, 0, 0, 0), NULL);
        due("1", w.fault(), 1);
        due("a TEXT that is not taken", w.well(0, 0, 0, 1), -100);
        due("0", w.fault(), 0);
        due("INDEX", w.put(0, 1, 0), INDEX);
        due("STATE is a refusal", w.hours(0, 0, 0, 1, 0), STATE);
        due("0", w.fault(), 0);
        due("INDEX", w.put(0, 1, 0), INDEX);
        due("cell", w.cell(0, 0, 0), 0);
        due("0", w.fault(), 0);
        due("INDEX", w.put(0, 1, 0), INDEX);
        due("copy", w.copy(0, 0, 0, 0, 1), 1);
        due("0", w.fault(), 0);
        due("INDEX", w.put(0, 1, 0), INDEX);
        due("put", w.put(0, 0, 0), 1);
        due("0", w.fault(), 0);
        due("well", text(w, "g01;t0000"), 1);
        due("CAST", w.as(0, 1), CAST);
        due("2", w.fault(), 2);
        due("names none", w.tell(0), 0);
        due("still 2", w.fault(), 2);
        due("hours", w.hours(0, 0, 0, 1, 0), 0);
        due("0", w.fault(), 0);
        due("CAST", w.as(0, 2), CAST);
        due("as", w.as(0, 0), 1);
        due("0", w.fault(), 0);
    }

    private static void howMany() {
        sentence = "How many: 0 THINGS, 1 places of the ROTA, 2 DEPTH, 3 READINGS (0 all without a WELL). OUTSIDE";
        WellBack w = new WellBack();
        for (int what = -1; what <= 4; what++) {
            due("without a WELL, " + what, w.many(what), what < 0 || what > 3 ? OUTSIDE : 0);
        }
        due("not taken", text(w, "g9012;t000"), -110);
        for (int what = 0; what < 4; what++) {
            due("without a WELL, " + what, w.many(what), 0);
        }
        due("well", text(w, "g9012340;t0000;t0000;t0000;t0000;t0000"), 5);
        for (int k = 0; k < 8; k++) {
            due("reading", w.reading(4, 0, 0), k);
        }
        int[] most = {5, 6, 9, 8};
        for (int what = -1; what <= 4; what++) {
            due("most, " + what, w.many(what), what < 0 || what > 3 ? OUTSIDE : most[what]);
        }
        due("well", text(w, "g04;t0000"), 1);
        int[] least = {1, 1, 0, 0};
        for (int what = 0; what < 4; what++) {
            due("least, " + what, w.many(what), least[what]);
        }
    }
}
