public final class WellBack {
    public static final int UNKNOWN = -1, OUTSIDE = -2, STATE = -3, FULL = -4, NONE = -9;
    public static final long LOST = Long.MIN_VALUE;

    private static final int NO_FAULT = 0, NULL = 1, CAST = 2, INDEX = 3, SIZE = 4;
    private static final int THING = 0, LETTER = 1, RING = 2;
    private static final int BYTES = 0, SHORTS = 1, INTS = 2;

    private static final int LAST_DRAWER = 4, LAST_DIGIT = 9, LAST_HOUR_DRAWN = 99, LAST_HOUR_TOLD = 23;
    private static final int MOST_SHEETS = 4, MOST_CELLS = 60, MOST_THINGS = 5, MOST_PLACES = 6;
    private static final int MOST_READINGS = 8, MOST_DRAWS = 30, MOST_ORDERS = 720, ODDS_HOURS = 12;
    private static final int THING_ASKED = 10;

    private final Sheet[] sheets = new Sheet[MOST_SHEETS];
    private final Thing[] things = new Thing[MOST_THINGS];
    private final Reading[] readings = new Reading[MOST_READINGS];
    private final Rota rota = new Rota();
    private final Rota triedRota = new Rota();
    private final Rota bestRota = new Rota();
    private final Text text = new Text();
    private final Walk walk = new Walk();
    private int depth;
    private int thingCount;
    private int readingCount;
    private int latestFault;
    private int traceNumber;

    public WellBack() {
        for (int k = 0; k < sheets.length; k++) {
            sheets[k] = new Sheet();
        }
        for (int x = 0; x < things.length; x++) {
            things[x] = new Thing();
        }
        for (int k = 0; k < readings.length; k++) {
            readings[k] = new Reading();
        }
    }

    // ---- 1 the well

    public int well(int sheet, int lane, int i, int n) {
        latestFault = NO_FAULT;
        Sheet from = sheetAt(sheet);
        if (from == null) {
            return UNKNOWN;
        }
        if (!within(lane, BYTES, INTS)) {
            return OUTSIDE;
        }
        int found = from.faultOfCells(lane, i, n);
        if (found != NO_FAULT) {
            return faulted(found);
        }
        text.take(from, i, n);
        int place = text.firstFault();
        if (place != Text.TAKEN) {
            return -100 - place;
        }
        makeAnew();
        return thingCount;
    }

    public int ofThing(int x, int what) {
        Thing thing = thingAt(x);
        if (thing == null) {
            return UNKNOWN;
        }
        switch (what) {
            case 0:
                return thing.kind;
            case 1:
                return thing.weight;
            case 2:
                return thing.owner;
            case 3:
                return thing.goal;
            case 4:
                return thing.hour;
            case 5:
                return delayOf(thing);
            default:
                return OUTSIDE;
        }
    }

    public int draws(int hour) {
        if (!hasWell()) {
            return STATE;
        }
        return within(hour, 0, LAST_HOUR_DRAWN) ? rota.drawerIn(hour) : OUTSIDE;
    }

    public int weigh(int x, int v) {
        Thing thing = thingAt(x);
        if (thing == null) {
            return UNKNOWN;
        }
        if (!within(v, 0, LAST_DIGIT)) {
            return OUTSIDE;
        }
        int was = thing.weight;
        thing.weight = v;
        return was;
    }

    public int dig(int v) {
        if (!within(v, 0, LAST_DIGIT)) {
            return OUTSIDE;
        }
        if (!hasWell()) {
            return STATE;
        }
        int was = depth;
        depth = v;
        return was;
    }

    public int hire(int k, int d) {
        if (!rota.hasPlace(k) || !isDrawer(d)) {
            return UNKNOWN;
        }
        int was = rota.drawerIn(k);
        rota.setPlace(k, d);
        return was;
    }

    // ---- 2 what comes up

    public int drop(int x, int d, int hour, int what) {
        Thing thing = thingAt(x);
        if (thing == null || !isDrawer(d)) {
            return UNKNOWN;
        }
        if (!within(hour, 0, LAST_HOUR_DRAWN) || !within(what, 0, 2)) {
            return OUTSIDE;
        }
        int delay = delayOf(thing);
        int comings = rota.comingsTillAnother(d, hour, delay);
        if (comings == 0) {
            return NONE;
        }
        int drawn = hour + comings * delay;
        if (what == 0) {
            return rota.drawerIn(drawn);
        }
        return what == 1 ? drawn : comings;
    }

    public int hands(int x, int k) {
        Thing thing = thingAt(x);
        if (thing == null) {
            return UNKNOWN;
        }
        if (!within(k, 0, MOST_DRAWS)) {
            return OUTSIDE;
        }
        int delay = delayOf(thing);
        walk.begin(thing);
        for (int draw = 1; draw <= k; draw++) {
            if (!walk.goOn(rota, delay)) {
                return NONE;
            }
        }
        return walk.holder;
    }

    public int home(int x) {
        Thing thing = thingAt(x);
        if (thing == null) {
            return UNKNOWN;
        }
        int delay = delayOf(thing);
        walk.begin(thing);
        for (int draw = 1; draw <= MOST_DRAWS; draw++) {
            if (!walk.goOn(rota, delay)) {
                return NONE;
            }
            if (walk.holder == thing.owner) {
                return draw;
            }
        }
        return NONE;
    }

    public int meets(int x) {
        Thing thing = thingAt(x);
        if (thing == null) {
            return UNKNOWN;
        }
        int delay = delayOf(thing);
        walk.begin(thing);
        int met = 1 << walk.holder;
        // Who draws next hangs on the place of the ROTA alone, so MOST_DRAWS draws meet all.
        for (int draw = 1; draw <= MOST_DRAWS; draw++) {
            if (!walk.goOn(rota, delay)) {
                return met;
            }
            met |= 1 << walk.holder;
        }
        return met;
    }

    public int hours(int sheet, int lane, int i, int n, int what) {
        latestFault = NO_FAULT;
        Sheet from = sheetAt(sheet);
        if (from == null) {
            return UNKNOWN;
        }
        if (!within(lane, BYTES, INTS) || !asksOfHours(what)) {
            return OUTSIDE;
        }
        int found = from.faultOfCells(lane, i, n);
        if (found != NO_FAULT) {
            return faulted(found);
        }
        if (!hasWell()) {
            return STATE;
        }
        if (n != thingCount || !from.holdsHours(i, n)) {
            return OUTSIDE;
        }
        switch (what) {
            case 0:
                return rightOnesTold(from, i);
            case 1:
                return latestDrawTold(from, i);
            case 2:
                return busiestDrawerTold(from, i);
            default:
                return drawerTold(from, i, what - THING_ASKED);
        }
    }

    // ---- 3 when, the rota

    public int when(int x, int d) {
        Thing thing = thingAt(x);
        if (thing == null || !isDrawer(d)) {
            return UNKNOWN;
        }
        int delay = delayOf(thing);
        for (int hour = 0; hour <= LAST_HOUR_TOLD; hour++) {
            if (rota.otherDrawer(thing.owner, hour, delay) == d) {
                return hour;
            }
        }
        return NONE;
    }

    public int best(int k) {
        if (!hasWell()) {
            return STATE;
        }
        if (!within(k, -1, MOST_PLACES - 1)) {
            return OUTSIDE;
        }
        if (k >= rota.places) {
            return NONE;
        }
        int right = findBestRota();
        return k == -1 ? right : bestRota.drawerIn(k);
    }

    // ---- 4 who drew what

    public int reading(int x, int hour, int d) {
        if (thingAt(x) == null || !(isDrawer(d) || d == NONE)) {
            return UNKNOWN;
        }
        if (!within(hour, 0, LAST_HOUR_TOLD)) {
            return OUTSIDE;
        }
        Reading next = readingAt(readingCount);
        if (next == null) {
            return FULL;
        }
        next.x = x;
        next.hour = hour;
        next.drawer = d;
        readingCount++;
        return readingCount - 1;
    }

    public int back(int k) {
        if (!within(k, 0, readingCount)) {
            return OUTSIDE;
        }
        readingCount -= k;
        return readingCount;
    }

    public int weights(int x) {
        Thing thing = thingAt(x);
        if (thing == null) {
            return UNKNOWN;
        }
        int set = 0;
        for (int weight = 0; weight <= LAST_DIGIT; weight++) {
            if (readingsAreSo(depth, x, thing.kind, weight)) {
                set |= 1 << weight;
            }
        }
        return set;
    }

    public int kinds(int x) {
        Thing thing = thingAt(x);
        if (thing == null) {
            return UNKNOWN;
        }
        int set = 0;
        for (int kind = THING; kind <= RING; kind++) {
            if (readingsAreSo(depth, x, kind, thing.weight)) {
                set |= 1 << kind;
            }
        }
        return set;
    }

    public int depths() {
        if (!hasWell()) {
            return STATE;
        }
        int set = 0;
        for (int tried = 0; tried <= LAST_DIGIT; tried++) {
            if (readingsAreSo(tried, NONE, THING, 0)) {
                set |= 1 << tried;
            }
        }
        return set;
    }

    public long odds(int x, int which) {
        Thing thing = thingAt(x);
        if (thing == null || !within(which, 0, 1)) {
            return LOST;
        }
        int right = 0;
        for (int hour = 0; hour < ODDS_HOURS; hour++) {
            if (isRight(thing, rota, hour)) {
                right++;
            }
        }
        int parts = which == 0 ? right : ODDS_HOURS;
        int measure = commonMeasure(right, ODDS_HOURS);
        return measure > 0 ? parts / measure : LOST;
    }

    // ---- 5 sheets, parts

    public int sheet(int k, int lane, int n) {
        latestFault = NO_FAULT;
        Sheet row = sheetAt(k);
        if (row == null) {
            return UNKNOWN;
        }
        if (!within(lane, BYTES, INTS) || n > MOST_CELLS) {
            return OUTSIDE;
        }
        if (n < 0) {
            return faulted(SIZE);
        }
        row.begin(lane, n);
        return 1;
    }

    public int lose(int k) {
        Sheet row = sheetAt(k);
        if (row == null) {
            return UNKNOWN;
        }
        boolean had = row.hasRow();
        row.empty();
        return had ? 1 : 0;
    }

    public int put(int k, int i, int v) {
        latestFault = NO_FAULT;
        Sheet row = sheetAt(k);
        if (row == null) {
            return UNKNOWN;
        }
        if (!row.hasRow()) {
            return faulted(NULL);
        }
        if (!row.hasCell(i)) {
            return faulted(INDEX);
        }
        row.write(i, v);
        return 1;
    }

    public long cell(int k, int i, int lane) {
        latestFault = NO_FAULT;
        Sheet row = sheetAt(k);
        if (row == null || !within(lane, BYTES, INTS)) {
            return LOST;
        }
        latestFault = row.faultOfLane(lane);
        if (latestFault == NO_FAULT && !row.hasCell(i)) {
            latestFault = INDEX;
        }
        return latestFault == NO_FAULT ? row.numberAt(i) : LOST;
    }

    public int copy(int k, int i, int other, int j, int n) {
        latestFault = NO_FAULT;
        Sheet from = sheetAt(k);
        Sheet to = sheetAt(other);
        if (from == null || to == null) {
            return UNKNOWN;
        }
        if (!from.hasRow() || !to.hasRow()) {
            return faulted(NULL);
        }
        if (from.lane != to.lane) {
            return faulted(CAST);
        }
        if (!from.hasCells(i, n) || !to.hasCells(j, n)) {
            return faulted(INDEX);
        }
        System.arraycopy(from.cells, i, to.cells, j, n);
        return n;
    }

    public int tell(int x) {
        Thing thing = thingAt(x);
        if (thing == null) {
            return UNKNOWN;
        }
        switch (thing.kind) {
            case LETTER:
                return tellLetter(thing);
            case RING:
                return tellRing(thing);
            default:
                return tellThing(thing);
        }
    }

    public int splash(int x) {
        Thing thing = thingAt(x);
        if (thing == null) {
            return UNKNOWN;
        }
        if (thing.kind == RING) {
            leaveTrace(5);
            return 80;
        }
        leaveTrace(4);
        return x;
    }

    public int as(int x, int kind) {
        latestFault = NO_FAULT;
        Thing thing = thingAt(x);
        if (thing == null) {
            return UNKNOWN;
        }
        if (!within(kind, THING, RING)) {
            return OUTSIDE;
        }
        // Kinds are numbered so that each is one of all kinds below it, too.
        return thing.kind >= kind ? 1 : faulted(CAST);
    }

    public int trace() {
        return traceNumber;
    }

    public int fault() {
        return latestFault;
    }

    public int many(int what) {
        switch (what) {
            case 0:
                return thingCount;
            case 1:
                return rota.places;
            case 2:
                return depth;
            case 3:
                return readingCount;
            default:
                return OUTSIDE;
        }
    }

    // ---- what there is

    private static boolean within(int v, int least, int most) {
        return v >= least && v <= most;
    }

    private static boolean isDrawer(int d) {
        return within(d, 0, LAST_DRAWER);
    }

    private static boolean asksOfHours(int what) {
        return within(what, 0, 2) || within(what, THING_ASKED, THING_ASKED + MOST_THINGS - 1);
    }

    private boolean hasWell() {
        return thingCount > 0;
    }

    private Sheet sheetAt(int k) {
        return k >= 0 && k < sheets.length ? sheets[k] : null;
    }

    private Thing thingAt(int x) {
        return x >= 0 && x < thingCount && x < things.length ? things[x] : null;
    }

    private Reading readingAt(int k) {
        return k >= 0 && k < readings.length ? readings[k] : null;
    }

    private int faulted(int found) {
        latestFault = found;
        return -10 - found;
    }

    private void makeAnew() {
        depth = text.digitAt(Text.DEPTH_PLACE);
        rota.places = text.places();
        for (int k = 0; k < rota.places; k++) {
            rota.setPlace(k, text.digitAt(Text.ROTA_PLACE + k));
        }
        thingCount = text.thingsTold();
        for (int x = 0; x < thingCount; x++) {
            Thing thing = thingAt(x);
            if (thing != null) {
                text.tellThingTo(thing, x);
            }
        }
        readingCount = 0;
    }

    // ---- who draws

    private static int delayBy(int kind, int deep, int weight) {
        int plain = deep + weight;
        if (kind == LETTER) {
            return Math.max(0, plain - 1);
        }
        return kind == RING ? 2 * plain : plain;
    }

    private int delayOf(Thing thing) {
        return delayBy(thing.kind, depth, thing.weight);
    }

    private boolean isRight(Thing thing, Rota by, int hour) {
        return by.otherDrawer(thing.owner, hour, delayOf(thing)) == thing.goal;
    }

    private int rightOnesTold(Sheet told, int i) {
        int set = 0;
        for (int x = 0; x < thingCount; x++) {
            Thing thing = thingAt(x);
            if (thing != null && isRight(thing, rota, told.numberAt(i + x))) {
                set |= 1 << x;
            }
        }
        return set;
    }

    private int latestDrawTold(Sheet told, int i) {
        int latest = NONE;
        for (int x = 0; x < thingCount; x++) {
            Thing thing = thingAt(x);
            if (thing != null) {
                int hour = told.numberAt(i + x);
                int delay = delayOf(thing);
                int comings = rota.comingsTillAnother(thing.owner, hour, delay);
                if (comings > 0) {
                    latest = Math.max(latest, hour + comings * delay);
                }
            }
        }
        return latest;
    }

    private int busiestDrawerTold(Sheet told, int i) {
        int busiest = NONE;
        int most = 0;
        for (int d = 0; d <= LAST_DRAWER; d++) {
            int drawn = 0;
            for (int x = 0; x < thingCount; x++) {
                if (drawerTold(told, i, x) == d) {
                    drawn++;
                }
            }
            if (drawn > most) {
                most = drawn;
                busiest = d;
            }
        }
        return busiest;
    }

    private int drawerTold(Sheet told, int i, int x) {
        Thing thing = thingAt(x);
        return thing == null ? NONE : rota.otherDrawer(thing.owner, told.numberAt(i + x), delayOf(thing));
    }

    private int rightOnesBy(Rota by) {
        int right = 0;
        for (int x = 0; x < thingCount; x++) {
            Thing thing = thingAt(x);
            if (thing != null && isRight(thing, by, thing.hour)) {
                right++;
            }
        }
        return right;
    }

    private int findBestRota() {
        triedRota.takeFrom(rota);
        triedRota.sort();
        int most = -1;
        for (int tried = 0; tried < MOST_ORDERS; tried++) {
            int right = rightOnesBy(triedRota);
            if (right > most) {
                most = right;
                bestRota.takeFrom(triedRota);
            }
            if (most == thingCount || !triedRota.goToNextOrder()) {
                break;
            }
        }
        return most;
    }

    private boolean readingsAreSo(int triedDepth, int x, int kind, int weight) {
        for (int k = 0; k < readingCount; k++) {
            Reading one = readingAt(k);
            Thing thing = one == null ? null : thingAt(one.x);
            if (thing != null) {
                int delay = one.x == x
                    ? delayBy(kind, triedDepth, weight)
                    : delayBy(thing.kind, triedDepth, thing.weight);
                if (rota.otherDrawer(thing.owner, one.hour, delay) != one.drawer) {
                    return false;
                }
            }
        }
        return true;
    }

    private static int commonMeasure(int a, int b) {
        for (int measure = b; measure > 1; measure--) {
            if (a % measure == 0 && b % measure == 0) {
                return measure;
            }
        }
        return 1;
    }

    // ---- telling

    private void leaveTrace(int number) {
        traceNumber = 31 * traceNumber + number;
    }

    private int tellThing(Thing thing) {
        leaveTrace(1);
        return thing.weight;
    }

    private int tellLetter(Thing thing) {
        leaveTrace(2);
        return tellThing(thing) + 100;
    }

    private int tellRing(Thing thing) {
        leaveTrace(3);
        int asLetter = tellLetter(thing);
        return asLetter + tellThing(thing);
    }

    private static final class Thing {
        int kind;
        int weight;
        int owner;
        int goal;
        int hour;
    }

    private static final class Reading {
        int x;
        int hour;
        int drawer;
    }

    /** A thing on its way from hand to hand. */
    private static final class Walk {
        int holder;
        int hour;

        void begin(Thing thing) {
            holder = thing.owner;
            hour = thing.hour;
        }

        boolean goOn(Rota rota, int delay) {
            int comings = rota.comingsTillAnother(holder, hour, delay);
            if (comings == 0) {
                return false;
            }
            hour += comings * delay;
            holder = rota.drawerIn(hour);
            return true;
        }
    }

    private static final class Rota {
        final int[] drawers = new int[MOST_PLACES];
        int places;

        boolean hasPlace(int k) {
            return k >= 0 && k < places && k < drawers.length;
        }

        void setPlace(int k, int d) {
            if (hasPlace(k)) {
                drawers[k] = d;
            }
        }

        int drawerIn(int hour) {
            if (places <= 0 || places > drawers.length || hour < 0) {
                return NONE;
            }
            return drawers[hour % places];
        }

        /** 0: there never is another one. */
        int comingsTillAnother(int d, int hour, int delay) {
            // Behind as many comings as there are places, the same drawers come again.
            for (int comings = 1; comings <= places; comings++) {
                if (drawerIn(hour + comings * delay) != d) {
                    return comings;
                }
            }
            return 0;
        }

        int otherDrawer(int d, int hour, int delay) {
            int comings = comingsTillAnother(d, hour, delay);
            return comings == 0 ? NONE : drawerIn(hour + comings * delay);
        }

        void takeFrom(Rota other) {
            places = other.places;
            for (int k = 0; k < places; k++) {
                setPlace(k, other.drawerIn(k));
            }
        }

        void sort() {
            for (int end = places - 1; end > 0; end--) {
                for (int k = 0; k < end; k++) {
                    if (drawerIn(k) > drawerIn(k + 1)) {
                        swap(k, k + 1);
                    }
                }
            }
        }

        /** Goes to the next order as rows stand; false behind the last one. */
        boolean goToNextOrder() {
            int rise = places - 2;
            for (; rise >= 0; rise--) {
                if (drawerIn(rise) < drawerIn(rise + 1)) {
                    break;
                }
            }
            if (rise < 0) {
                return false;
            }
            int above = places - 1;
            for (; above > rise + 1; above--) {
                if (drawerIn(above) > drawerIn(rise)) {
                    break;
                }
            }
            swap(rise, above);
            int right = places - 1;
            for (int left = rise + 1; left < right; left++) {
                swap(left, right);
                right--;
            }
            return true;
        }

        private void swap(int a, int b) {
            int kept = drawerIn(a);
            setPlace(a, drawerIn(b));
            setPlace(b, kept);
        }
    }

    private static final class Sheet {
        // One row for all lanes, used again by each new row that the sheet gets.
        final int[] cells = new int[MOST_CELLS];
        int lane = NONE;
        int length;

        boolean hasRow() {
            return lane != NONE;
        }

        void empty() {
            lane = NONE;
            length = 0;
        }

        void begin(int newLane, int n) {
            lane = newLane;
            length = n;
            for (int i = 0; i < cells.length; i++) {
                cells[i] = 0;
            }
        }

        boolean hasCell(int i) {
            return i >= 0 && i < length && i < cells.length;
        }

        boolean hasCells(int i, int n) {
            // length - i, as i + n may wrap.
            return length <= cells.length && i >= 0 && i <= length && n >= 0 && n <= length - i;
        }

        int numberAt(int i) {
            return hasCell(i) ? cells[i] : 0;
        }

        void write(int i, int v) {
            if (hasCell(i)) {
                cells[i] = cutToLane(v);
            }
        }

        private int cutToLane(int v) {
            if (lane == BYTES) {
                return (byte) v;
            }
            return lane == SHORTS ? (short) v : v;
        }

        int faultOfLane(int wanted) {
            if (!hasRow()) {
                return NULL;
            }
            return lane == wanted ? NO_FAULT : CAST;
        }

        int faultOfCells(int wanted, int i, int n) {
            int found = faultOfLane(wanted);
            if (found != NO_FAULT) {
                return found;
            }
            if (n < 0) {
                return SIZE;
            }
            return hasCells(i, n) ? NO_FAULT : INDEX;
        }

        boolean holdsHours(int i, int n) {
            for (int k = 0; k < n; k++) {
                if (!within(numberAt(i + k), 0, LAST_HOUR_TOLD)) {
                    return false;
                }
            }
            return true;
        }
    }

    private static final class Text {
        static final int TAKEN = -1, DEPTH_PLACE = 1, ROTA_PLACE = 2;
        private static final int NO_CODE = -1, CODE_G = 103, CODE_T = 116, CODE_L = 108, CODE_R = 114;
        private static final int CODE_SEMICOLON = 59, CODE_0 = 48, CODES_OF_THING = 6;

        final int[] codes = new int[MOST_CELLS];
        int length;

        void take(Sheet from, int i, int n) {
            length = n;
            for (int k = 0; k < n && k < codes.length; k++) {
                codes[k] = from.numberAt(i + k);
            }
        }

        private int codeAt(int place) {
            // Behind the end there is a code that goes on with nothing: a TEXT that ends
            // too soon has its FIRST FAULT at its length.
            return place >= 0 && place < length && place < codes.length ? codes[place] : NO_CODE;
        }

        private boolean hasDigit(int place, int most) {
            return within(codeAt(place), CODE_0, CODE_0 + most);
        }

        int digitAt(int place) {
            return codeAt(place) - CODE_0;
        }

        int places() {
            int count = 0;
            for (int k = 0; k < MOST_PLACES && hasDigit(ROTA_PLACE + k, LAST_DRAWER); k++) {
                count++;
            }
            return count;
        }

        int thingsTold() {
            return (length - ROTA_PLACE - places()) / CODES_OF_THING;
        }

        int firstFault() {
            if (codeAt(0) != CODE_G) {
                return 0;
            }
            if (!hasDigit(DEPTH_PLACE, LAST_DIGIT)) {
                return DEPTH_PLACE;
            }
            int places = places();
            if (places == 0) {
                return ROTA_PLACE;
            }
            int start = ROTA_PLACE + places;
            for (int x = 0; x < MOST_THINGS; x++) {
                if (x > 0 && start == length) {
                    return TAKEN;
                }
                for (int k = 0; k < CODES_OF_THING; k++) {
                    if (!goesOn(start + k, k)) {
                        return start + k;
                    }
                }
                start += CODES_OF_THING;
            }
            return start == length ? TAKEN : start;
        }

        private boolean goesOn(int place, int k) {
            switch (k) {
                case 0:
                    return codeAt(place) == CODE_SEMICOLON;
                case 1:
                    return kindAt(place) != NONE;
                case 3:
                case 4:
                    return hasDigit(place, LAST_DRAWER);
                default:
                    return hasDigit(place, LAST_DIGIT);
            }
        }

        private int kindAt(int place) {
            switch (codeAt(place)) {
                case CODE_T:
                    return THING;
                case CODE_L:
                    return LETTER;
                case CODE_R:
                    return RING;
                default:
                    return NONE;
            }
        }

        void tellThingTo(Thing thing, int x) {
            int start = ROTA_PLACE + places() + CODES_OF_THING * x;
            thing.kind = kindAt(start + 1);
            thing.weight = digitAt(start + 2);
            thing.owner = digitAt(start + 3);
            thing.goal = digitAt(start + 4);
            thing.hour = digitAt(start + 5);
        }
    }
}
