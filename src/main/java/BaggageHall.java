/**
 * A baggage hall's shifts: a list of acts on items, belts, counters, grids and alarms, with guards
 * that take failures by kinds and go on elsewhere.
 *
 * <p>Failures are numbers that an act answers, never exceptions: what could fail is looked at first.
 */
public final class BaggageHall {
    public static final int NONE = -1, OUTSIDE = -101, ROOM = -102;

    private static final int MOST_ACTS = 40, MOST_GUARDS = 5, MOST_DONE = 64, MOST_PLACES = 8, GRID_WIDTHS = 6;

    private static final int PLACES = 8, BELTS = 4, COUNTERS = 3, GRIDS = 2, ALARMS = 3, REGISTERS = 6;

    // a TROLLEY is of kind 0; as a wanted kind 0 means any one
    private static final int ANY_KIND = 0, BAG = 1, CRATE = 2, CAGE = 3, DOG = 4, KINDS = 5;

    private static final int NO_FAILURE = 0, NOTHING_THERE = 1, BAD_SIZE = 2, BAD_INDEX = 3, WRONG_KIND = 4,
            BAD_STORE = 5, TOO_LARGE = 6, ALARM_RAISED = 7, FAILURES = 8;

    private static final int ENDED = 0, FAILED = 1, MORE_TO_DO = 2;

    private static final int MAKE = 0, LOSE = 1, SAME = 2, NEW_BELT = 3, LAY = 4, PICK = 5, LONG = 6, DROP = 7,
            WEIGH = 8, LOAD = 9, STAMP = 10, FEED = 11, AS = 12, NEW_COUNTER = 13, COUNT = 14, HOW = 15,
            NEW_GRID = 16, SUM = 17, NEW_ALARM = 18, HUSH = 19, RAISE = 20, SET = 21, ADD = 22, GO = 23, IF = 24;

    private final Plan plan;
    private final Hall hall;
    private final Report report;

    public BaggageHall() {
        plan = new Plan();
        hall = new Hall();
        report = new Report();
    }

    public int act(int op, int a, int b, int c) {
        if (!Plan.isAct(op, a, b, c)) {
            return OUTSIDE;
        }
        return plan.addAct(op, a, b, c);
    }

    public int guard(int from, int to, int failure, int line) {
        boolean lines = 0 <= from && from < to && to <= MOST_ACTS;
        if (!lines || !isBelow(failure, FAILURES) || !isBelow(line, MOST_ACTS + 1)) {
            return OUTSIDE;
        }
        return plan.addGuard(from, to, failure, line);
    }

    public int clear() {
        int acts = plan.acts;
        plan.acts = 0;
        plan.guards = 0;
        return acts;
    }

    public int run(int x, int many) {
        if (!isBelow(many, MOST_DONE + 1)) {
            return OUTSIDE;
        }
        hall.begin(x);
        report.begin();
        int line = 0;
        for (int done = 0; done < many && plan.hasAct(line); done++) {
            line = nextLine(line);
        }
        if (report.failure != NO_FAILURE) {
            return FAILED;
        }
        return plan.hasAct(line) ? MORE_TO_DO : ENDED;
    }

    public int told(int what) {
        switch (what) {
            case 0:
                return report.failure;
            case 1:
                return report.line;
            case 2:
                return report.alarm;
            case 3:
                return report.done;
            case 4:
                return report.allTaken;
            default:
                return OUTSIDE;
        }
    }

    public int caught(int failure) {
        if (failure == NO_FAILURE || !isBelow(failure, FAILURES)) {
            return OUTSIDE;
        }
        return report.taken[failure];
    }

    public int register(int which) {
        // a register may hold any number, so the document gives 0 here and not OUTSIDE
        return isBelow(which, REGISTERS) ? hall.registers[which] : 0;
    }

    public int item(int place, int what) {
        if (!isBelow(place, PLACES) || !isBelow(what, 4)) {
            return OUTSIDE;
        }
        int thing = hall.places[place];
        if (!hall.items.has(thing)) {
            return NONE;
        }
        switch (what) {
            case 0:
                return hall.items.kinds[thing];
            case 1:
                return hall.items.weights[thing];
            case 2:
                return hall.items.stamps[thing];
            default:
                return hall.firstPlaceOf(thing);
        }
    }

    public int row(int which, int what) {
        switch (what) {
            case 0:
                return isBelow(which, BELTS) ? hall.belts[which].length : OUTSIDE;
            case 1:
                return isBelow(which, COUNTERS) ? hall.counters[which].length : OUTSIDE;
            case 2:
                return isBelow(which, GRIDS) ? hall.gridRows[which] : OUTSIDE;
            case 3:
                return isBelow(which, BELTS) ? hall.belts[which].kind : OUTSIDE;
            default:
                return OUTSIDE;
        }
    }

    public int onBelt(int belt, int i) {
        if (!isBelow(belt, BELTS)) {
            return OUTSIDE;
        }
        Row places = hall.belts[belt];
        if (!places.hasPlace(i)) {
            return NONE;
        }
        int thing = places.cells[i];
        return hall.items.has(thing) ? hall.items.kinds[thing] : NONE;
    }

    public int counted(int counter, int i) {
        if (!isBelow(counter, COUNTERS)) {
            return OUTSIDE;
        }
        Row places = hall.counters[counter];
        return places.hasPlace(i) ? places.cells[i] : 0;
    }

    /** Does the act at a line that has one; answers the line to go on at, NONE if the shift failed. */
    private int nextLine(int line) {
        int op = plan.ops[line];
        int a = plan.firsts[line];
        int b = plan.seconds[line];
        int failure = hall.perform(op, a, b, plan.thirds[line]);
        report.done++;
        if (failure == NO_FAILURE) {
            return hall.lineBehind(line, op, a, b);
        }
        if (failure == ALARM_RAISED) {
            report.alarm = hall.alarmNumbers[a];
        }
        int guard = plan.guardFor(line, failure);
        if (guard == NONE) {
            report.failure = failure;
            report.line = line;
            return NONE;
        }
        report.taken[failure]++;
        report.allTaken++;
        return plan.guardLines[guard];
    }

    private static boolean isBelow(int number, int bound) {
        return 0 <= number && number < bound;
    }

    /** Whether an item of a kind is also of the wanted one. */
    private static boolean isOf(int kind, int wanted) {
        // of BAG, CRATE and CAGE each is also of the kinds before it; a DOG is of none of them
        return wanted == ANY_KIND || kind == wanted || (kind <= CAGE && wanted < kind);
    }

    private static int sizeFailure(int size) {
        if (size < 0) {
            return BAD_SIZE;
        }
        return size > MOST_PLACES ? TOO_LARGE : NO_FAILURE;
    }

    /** The acts and guards that shifts follow. */
    private static final class Plan {
        // of each op's numbers: how many values from 0 on are good; 0: any value is, or it is not looked at
        private static final int[] FIRST_BOUNDS = {
            PLACES, PLACES, PLACES, BELTS, BELTS, PLACES, REGISTERS, BELTS, REGISTERS, PLACES, REGISTERS,
            REGISTERS, PLACES, COUNTERS, COUNTERS, REGISTERS, GRIDS, REGISTERS, ALARMS, ALARMS, ALARMS,
            REGISTERS, REGISTERS, MOST_ACTS + 1, REGISTERS};
        private static final int[] SECOND_BOUNDS = {
            KINDS, 0, PLACES, KINDS, REGISTERS, BELTS, BELTS, 0, PLACES, REGISTERS, PLACES,
            PLACES, KINDS, REGISTERS, REGISTERS, COUNTERS, REGISTERS, GRIDS, REGISTERS, 0, 0,
            0, REGISTERS, 0, MOST_ACTS + 1};
        private static final int[] THIRD_BOUNDS = {
            REGISTERS, 0, 0, REGISTERS, PLACES, REGISTERS, 0, 0, 0, 0, 0,
            0, 0, 0, 0, REGISTERS, GRID_WIDTHS, 0, 0, 0, 0,
            0, 0, 0, 0};

        final int[] ops = new int[MOST_ACTS];
        final int[] firsts = new int[MOST_ACTS];
        final int[] seconds = new int[MOST_ACTS];
        final int[] thirds = new int[MOST_ACTS];
        int acts = 0;
        final int[] guardFroms = new int[MOST_GUARDS];
        final int[] guardTos = new int[MOST_GUARDS];
        final int[] guardFailures = new int[MOST_GUARDS];
        final int[] guardLines = new int[MOST_GUARDS];
        int guards = 0;

        static boolean isAct(int op, int a, int b, int c) {
            return isBelow(op, IF + 1)
                    && isGood(a, FIRST_BOUNDS[op])
                    && isGood(b, SECOND_BOUNDS[op])
                    && isGood(c, THIRD_BOUNDS[op]);
        }

        private static boolean isGood(int number, int bound) {
            return bound == 0 || isBelow(number, bound);
        }

        int addAct(int op, int a, int b, int c) {
            if (acts >= MOST_ACTS) {
                return ROOM;
            }
            ops[acts] = op;
            firsts[acts] = a;
            seconds[acts] = b;
            thirds[acts] = c;
            return acts++;
        }

        int addGuard(int from, int to, int failure, int line) {
            if (guards >= MOST_GUARDS) {
                return ROOM;
            }
            guardFroms[guards] = from;
            guardTos[guards] = to;
            guardFailures[guards] = failure;
            guardLines[guards] = line;
            return guards++;
        }

        boolean hasAct(int line) {
            return isBelow(line, acts);
        }

        int guardFor(int line, int failure) {
            for (int i = 0; i < guards; i++) {
                boolean hasLine = guardFroms[i] <= line && line < guardTos[i];
                if (hasLine && (guardFailures[i] == 0 || guardFailures[i] == failure)) {
                    return i;
                }
            }
            return NONE;
        }
    }

    /** What there is to tell of the latest shift beside what it left in the hall. */
    private static final class Report {
        int failure = NO_FAILURE;
        int line = NONE;
        int alarm = 0;
        int done = 0;
        int allTaken = 0;
        final int[] taken = new int[FAILURES];

        void begin() {
            failure = NO_FAILURE;
            line = NONE;
            alarm = 0;
            done = 0;
            allTaken = 0;
            for (int i = 0; i < FAILURES; i++) {
                taken[i] = 0;
            }
        }
    }

    /** All items that a shift made, by number, so that each shift can use the same arrays again. */
    private static final class Items {
        final int[] kinds = new int[MOST_DONE];
        final int[] weights = new int[MOST_DONE];
        final int[] stamps = new int[MOST_DONE];
        int made = 0;

        boolean has(int thing) {
            return isBelow(thing, made);
        }

        int add(int kind, int weight) {
            // never so: a shift does at most MOST_DONE acts, and each makes one item at most
            if (made >= MOST_DONE) {
                return NONE;
            }
            kinds[made] = kind;
            weights[made] = weight;
            stamps[made] = 0;
            return made++;
        }

        int stamp(int thing) {
            stamps[thing]++;
            int together = weights[thing] + stamps[thing];
            switch (kinds[thing]) {
                case BAG:
                case CRATE:
                    return 2 * together;
                case CAGE:
                    return 2 * together - 1;
                case DOG:
                    return 3 * together;
                default:
                    return together;
            }
        }

        boolean isAlive(int thing) {
            return kinds[thing] == CAGE || kinds[thing] == DOG;
        }

        int feed(int thing) {
            if (kinds[thing] == CAGE) {
                weights[thing] += 5;
                return weights[thing];
            }
            weights[thing] *= 2;
            return weights[thing] - stamps[thing];
        }
    }

    /** A belt (its cells are numbers of items, or NONE) or a counter; it is there if its length is not NONE. */
    private static final class Row {
        int kind = NONE;
        int length = NONE;
        final int[] cells = new int[MOST_PLACES];

        boolean isThere() {
            return length != NONE;
        }

        boolean hasPlace(int i) {
            return 0 <= i && i < length;
        }

        void remove() {
            kind = NONE;
            length = NONE;
        }

        int renew(int newKind, int size, int content) {
            int failure = sizeFailure(size);
            if (failure == NO_FAILURE) {
                kind = newKind;
                length = size;
                for (int i = 0; i < MOST_PLACES; i++) {
                    cells[i] = content;
                }
            }
            return failure;
        }

        int placeFailure(int i) {
            if (!isThere()) {
                return NOTHING_THERE;
            }
            return hasPlace(i) ? NO_FAILURE : BAD_INDEX;
        }
    }

    /** What is in the hall, and how acts change it; each act answers its failure. */
    private static final class Hall {
        final int[] registers = new int[REGISTERS];
        final int[] places = new int[PLACES];
        final Items items = new Items();
        final Row[] belts = new Row[BELTS];
        final Row[] counters = new Row[COUNTERS];
        final int[] gridRows = new int[GRIDS];
        final int[] gridWidths = new int[GRIDS];
        final boolean[] alarmsThere = new boolean[ALARMS];
        final int[] alarmNumbers = new int[ALARMS];

        Hall() {
            for (int i = 0; i < BELTS; i++) {
                belts[i] = new Row();
            }
            for (int i = 0; i < COUNTERS; i++) {
                counters[i] = new Row();
            }
            begin(0);
        }

        void begin(int given) {
            for (int i = 0; i < REGISTERS; i++) {
                registers[i] = 0;
            }
            registers[0] = given;
            items.made = 0;
            for (int i = 0; i < PLACES; i++) {
                places[i] = NONE;
            }
            for (int i = 0; i < BELTS; i++) {
                belts[i].remove();
            }
            for (int i = 0; i < COUNTERS; i++) {
                counters[i].remove();
            }
            for (int i = 0; i < GRIDS; i++) {
                gridRows[i] = NONE;
            }
            for (int i = 0; i < ALARMS; i++) {
                alarmsThere[i] = false;
            }
        }

        int firstPlaceOf(int thing) {
            for (int i = 0; i < PLACES; i++) {
                if (places[i] == thing) {
                    return i;
                }
            }
            return NONE;
        }

        int lineBehind(int line, int op, int a, int b) {
            if (op == GO) {
                return a;
            }
            return op == IF && registers[a] < 1 ? b : line + 1;
        }

        /** Does an act whose numbers Plan.isAct has found good. */
        int perform(int op, int a, int b, int c) {
            switch (op) {
                case MAKE:
                case LOSE:
                case SAME:
                    return placeAct(op, a, b, c);
                case NEW_BELT:
                case LAY:
                case PICK:
                case LONG:
                case DROP:
                    return beltAct(op, a, b, c);
                case WEIGH:
                case STAMP:
                case FEED:
                    return askItem(op, a, places[b]);
                case LOAD:
                    return load(places[a], registers[b]);
                case AS:
                    return asKind(places[a], b);
                case NEW_COUNTER:
                case COUNT:
                case HOW:
                    return counterAct(op, a, b, c);
                case NEW_GRID:
                    return newGrid(a, registers[b], c);
                case SUM:
                    return sumGrid(a, b);
                case NEW_ALARM:
                case HUSH:
                case RAISE:
                    return alarmAct(op, a, b);
                case SET:
                    registers[a] = b;
                    return NO_FAILURE;
                case ADD:
                    registers[a] += registers[b];
                    return NO_FAILURE;
                default:
                    // GO and IF change nothing but the line
                    return NO_FAILURE;
            }
        }

        private int placeAct(int op, int place, int b, int c) {
            if (op == MAKE) {
                places[place] = items.add(b, registers[c]);
            } else if (op == LOSE) {
                places[place] = NONE;
            } else {
                places[place] = places[b];
            }
            return NO_FAILURE;
        }

        private int beltAct(int op, int a, int b, int c) {
            switch (op) {
                case NEW_BELT:
                    return belts[a].renew(b, registers[c], NONE);
                case LAY:
                    return lay(belts[a], registers[b], places[c]);
                case PICK:
                    return pick(a, belts[b], registers[c]);
                case LONG:
                    return measure(a, belts[b]);
                default:
                    belts[a].remove();
                    return NO_FAILURE;
            }
        }

        private int lay(Row belt, int i, int thing) {
            int failure = belt.placeFailure(i);
            if (failure != NO_FAILURE) {
                return failure;
            }
            if (items.has(thing) && !isOf(items.kinds[thing], belt.kind)) {
                return BAD_STORE;
            }
            belt.cells[i] = thing;
            return NO_FAILURE;
        }

        private int pick(int place, Row belt, int i) {
            int failure = belt.placeFailure(i);
            if (failure == NO_FAILURE) {
                places[place] = belt.cells[i];
            }
            return failure;
        }

        private int measure(int register, Row belt) {
            if (!belt.isThere()) {
                return NOTHING_THERE;
            }
            registers[register] = belt.length;
            return NO_FAILURE;
        }

        private int askItem(int op, int register, int thing) {
            if (!items.has(thing)) {
                return NOTHING_THERE;
            }
            if (op == WEIGH) {
                registers[register] = items.weights[thing];
            } else if (op == STAMP) {
                registers[register] = items.stamp(thing);
            } else if (items.isAlive(thing)) {
                registers[register] = items.feed(thing);
            } else {
                return WRONG_KIND;
            }
            return NO_FAILURE;
        }

        private int load(int thing, int weight) {
            if (!items.has(thing)) {
                return NOTHING_THERE;
            }
            items.weights[thing] = weight;
            return NO_FAILURE;
        }

        private int asKind(int thing, int kind) {
            boolean fits = !items.has(thing) || isOf(items.kinds[thing], kind);
            return fits ? NO_FAILURE : WRONG_KIND;
        }

        private int counterAct(int op, int a, int b, int c) {
            if (op == NEW_COUNTER) {
                return counters[a].renew(NONE, registers[b], 0);
            }
            return op == COUNT ? count(counters[a], registers[b]) : readCount(a, counters[b], registers[c]);
        }

        private int count(Row counter, int i) {
            int failure = counter.placeFailure(i);
            if (failure == NO_FAILURE) {
                counter.cells[i]++;
            }
            return failure;
        }

        private int readCount(int register, Row counter, int i) {
            int failure = counter.placeFailure(i);
            if (failure == NO_FAILURE) {
                registers[register] = counter.cells[i];
            }
            return failure;
        }

        private int newGrid(int grid, int rows, int width) {
            int failure = sizeFailure(rows);
            if (failure == NO_FAILURE) {
                gridRows[grid] = rows;
                gridWidths[grid] = width;
            }
            return failure;
        }

        private int sumGrid(int register, int grid) {
            if (gridRows[grid] == NONE) {
                return NOTHING_THERE;
            }
            registers[register] = gridRows[grid] * gridWidths[grid];
            return NO_FAILURE;
        }

        private int alarmAct(int op, int alarm, int b) {
            if (op == RAISE) {
                return alarmsThere[alarm] ? ALARM_RAISED : NOTHING_THERE;
            }
            alarmsThere[alarm] = op == NEW_ALARM;
            if (op == NEW_ALARM) {
                alarmNumbers[alarm] = registers[b];
            }
            return NO_FAILURE;
        }
    }
}
