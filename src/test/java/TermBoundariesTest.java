/** The edges that the section "Terms" names for what is in the hall: how many there are, sizes, places, kinds, NONE. */
public final class TermBoundariesTest extends HallChecks {
    private static final int[] SIZES = {0, 1, 7, 8};
    private static final int[] ROW_OPS = {BELT, COUNTER, GRID};

    public static void main(String[] args) {
        nothingIsThereAtTheBeginning();
        eachPlaceIsOfItsOwn();
        eachBeltIsOfItsOwn();
        eachCounterIsOfItsOwn();
        eachGridIsOfItsOwn();
        eachAlarmIsOfItsOwn();
        eachRegisterIsOfItsOwn();
        registersWrap();
        weightsWrap();
        stampsWrapWithTheWeight();
        stampsBeginAt0AndGoUpByOne();
        weightsAreAnyNumber();
        sizesFrom0To8();
        aSizeBelow0IsSize();
        aSizeAbove8IsLarge();
        newBeltsHaveNoneAtAllPlaces();
        newCountersHave0AtAllPlaces();
        gridsHaveRowsOf0To5Places();
        placesOfABelt();
        placesOfACounter();
        beltsTakeWhatIsOfTheirKind();
        beltsTakeNone();
        pickOfNoneLeavesNone();
        asTakesWhatIsOfAKindOrNone();
        onlyWhatIsAliveIsFed();
        sameOfNothingIsNothing();
        loseDropAndHushDoNotFail();
        whatIsNotThereIsNone();
        whatIsGoneIsNone();
        alarmsHaveAnyNumber();
        ofSeveralFailuresTheFirst();
        aFailedActHasDoneNothingElse();
        CHECKS.end();
    }

    /** One act for each thing that may be there or not, from its first to its last one. */
    private static int[][] actsOnNothing() {
        return new int[][] {
            {WEIGH, 0, 0, 0}, {WEIGH, 0, 7, 0}, {LOAD, 0, 0, 0}, {LOAD, 7, 0, 0}, {STAMP, 0, 0, 0}, {STAMP, 5, 7, 0},
            {FEED, 0, 0, 0}, {FEED, 5, 7, 0}, {LONG, 0, 0, 0}, {LONG, 5, 3, 0}, {LAY, 0, 0, 0}, {LAY, 3, 5, 7},
            {PICK, 0, 0, 0}, {PICK, 7, 3, 5}, {COUNT, 0, 0, 0}, {COUNT, 2, 5, 0}, {HOW, 0, 0, 0}, {HOW, 5, 2, 5},
            {SUM, 0, 0, 0}, {SUM, 5, 1, 0}, {RAISE, 0, 0, 0}, {RAISE, 2, 0, 0}};
    }

    private static void nothingIsThereAtTheBeginning() {
        for (int[] act : actsOnNothing()) {
            BaggageHall hall = planned(act);
            dueFailure("first shift, act " + act[0], hall, 0, IS_NONE, 0);
            due("clear", 1, hall.clear());
            fillHall(hall);
            dueEnd("a shift that makes all", hall, 1);
            due("clear", 21, hall.clear());
            due("act", 0, hall.act(act[0], act[1], act[2], act[3]));
            dueFailure("second shift, act " + act[0], hall, 0, IS_NONE, 0);
        }
    }

    private static void fillHall(BaggageHall hall) {
        for (int i = 0; i < 8; i++) {
            due("fill", i, hall.act(MAKE, i, DOG, 0));
        }
        for (int i = 0; i < 4; i++) {
            due("fill", 8 + i, hall.act(BELT, i, TROLLEY, 0));
        }
        for (int i = 0; i < 3; i++) {
            due("fill", 12 + 2 * i, hall.act(COUNTER, i, 0, 0));
            due("fill", 13 + 2 * i, hall.act(ALARM, i, 0, 0));
        }
        for (int i = 0; i < 2; i++) {
            due("fill", 18 + i, hall.act(GRID, i, 0, 5));
        }
        due("fill", 20, hall.act(ADD, 5, 0, 0));
    }

    private static void eachPlaceIsOfItsOwn() {
        for (int place = 0; place < 8; place++) {
            BaggageHall hall = planned(MAKE, place, CRATE, 0, WEIGH, 1, place, 0);
            dueEnd("place " + place, hall, 6);
            due("weighed at " + place, 6, hall.register(1));
            for (int other = 0; other < 8; other++) {
                due("made at " + place + ", seen at " + other, other == place ? CRATE : NONE, hall.item(other, 0));
            }
        }
    }

    private static void eachBeltIsOfItsOwn() {
        for (int belt = 0; belt < 4; belt++) {
            BaggageHall hall = planned(MAKE, 0, CAGE, 0, BELT, belt, BAG, 0, LAY, belt, 1, 0, PICK, 7, belt, 1);
            dueEnd("belt " + belt, hall, 5);
            due("picked from " + belt, 0, hall.item(7, 3));
            for (int other = 0; other < 4; other++) {
                due("laid on " + belt + ", seen on " + other, other == belt ? CAGE : NONE, hall.onBelt(other, 0));
                due("belt " + belt + ", places of " + other, other == belt ? 5 : NONE, hall.row(other, 0));
                due("belt " + belt + ", kind of " + other, other == belt ? BAG : NONE, hall.row(other, 3));
            }
        }
    }

    private static void eachCounterIsOfItsOwn() {
        for (int counter = 0; counter < 3; counter++) {
            BaggageHall hall = planned(COUNTER, counter, 0, 0, COUNT, counter, 1, 0, HOW, 5, counter, 1);
            dueEnd("counter " + counter, hall, 5);
            due("read from " + counter, 1, hall.register(5));
            for (int other = 0; other < 3; other++) {
                due("counter " + counter + ", places of " + other, other == counter ? 5 : NONE, hall.row(other, 1));
                due("counter " + counter + ", counted on " + other, other == counter ? 1 : 0, hall.counted(other, 0));
            }
        }
    }

    private static void eachGridIsOfItsOwn() {
        for (int grid = 0; grid < 2; grid++) {
            BaggageHall hall = planned(GRID, grid, 0, 4, SUM, 1, grid, 0, SUM, 2, 1 - grid, 0);
            dueFailure("grid " + grid, hall, 3, IS_NONE, 2);
            due("sum of " + grid, 12, hall.register(1));
            due("rows of " + grid, 3, hall.row(grid, 2));
            due("rows of the other", NONE, hall.row(1 - grid, 2));
        }
        BaggageHall both = planned(GRID, 0, 0, 4, GRID, 1, 0, 2, SUM, 1, 0, 0, SUM, 2, 1, 0);
        dueEnd("both grids", both, 3);
        due("sum of the first", 12, both.register(1));
        due("sum of the second", 6, both.register(2));
    }

    private static void eachAlarmIsOfItsOwn() {
        for (int alarm = 0; alarm < 3; alarm++) {
            for (int other = 0; other < 3; other++) {
                BaggageHall hall = planned(ALARM, alarm, 0, 0, RAISE, other, 0, 0);
                dueFailure("alarm " + alarm + ", raise " + other, hall, 9, other == alarm ? IS_ALARM : IS_NONE, 1);
                due("alarm " + alarm + ", number of " + other, other == alarm ? 9 : 0, hall.told(2));
            }
        }
        BaggageHall all = planned(SET, 1, 11, 0, SET, 2, 12, 0, ALARM, 0, 0, 0, ALARM, 1, 1, 0, ALARM, 2, 2, 0,
                HUSH, 1, 0, 0, RAISE, 0, 0, 0, RAISE, 1, 0, 0, RAISE, 2, 0, 0);
        due("guard", 0, all.guard(6, 7, IS_ALARM, 7));
        due("guard", 1, all.guard(7, 8, IS_NONE, 8));
        dueFailure("one of three hushed", all, 10, IS_ALARM, 8);
        due("the last one's number", 12, all.told(2));
        due("the first was raised, too", 1, all.caught(IS_ALARM));
        due("the hushed one was not", 1, all.caught(IS_NONE));
    }

    private static void eachRegisterIsOfItsOwn() {
        for (int register = 0; register < 6; register++) {
            BaggageHall hall = planned(SET, register, 44, 0, ADD, register, register, 0);
            dueEnd("register " + register, hall, 0);
            for (int other = 0; other < 6; other++) {
                due("set " + register + ", seen in " + other, other == register ? 88 : 0, hall.register(other));
            }
        }
    }

    private static int added(int first, int second) {
        BaggageHall hall = planned(SET, 1, second, 0, ADD, 0, 1, 0);
        dueEnd(first + " and " + second, hall, first);
        return hall.register(0);
    }

    private static void registersWrap() {
        due("up to the greatest", MAX, added(MAX - 1, 1));
        due("beyond the greatest", MIN, added(MAX, 1));
        due("down to the least", MIN, added(MIN + 1, -1));
        due("beyond the least", MAX, added(MIN, -1));
        due("greatest twice", -2, added(MAX, MAX));
        due("least twice", 0, added(MIN, MIN));
        due("least and greatest", -1, added(MIN, MAX));
    }

    private static void dueFed(int kind, int weight, int wantRegister, int wantWeight) {
        BaggageHall hall = planned(MAKE, 0, kind, 0, FEED, 1, 0, 0);
        dueEnd("feed " + kind + " of weight " + weight, hall, weight);
        due("fed " + kind + " of weight " + weight, wantRegister, hall.register(1));
        due("weight then of " + kind + " of " + weight, wantWeight, hall.item(0, 1));
    }

    private static void weightsWrap() {
        dueFed(CAGE, MAX - 5, MAX, MAX);
        dueFed(CAGE, MAX - 4, MIN, MIN);
        dueFed(CAGE, MIN, MIN + 5, MIN + 5);
        dueFed(CAGE, -5, 0, 0);
        dueFed(DOG, 1073741823, MAX - 1, MAX - 1);
        dueFed(DOG, 1073741824, MIN, MIN);
        dueFed(DOG, -1073741824, MIN, MIN);
        dueFed(DOG, -1073741825, MAX - 1, MAX - 1);
        dueFed(DOG, 0, 0, 0);
        BaggageHall stamped = planned(MAKE, 0, DOG, 0, STAMP, 1, 0, 0, FEED, 1, 0, 0);
        dueEnd("a stamped dog", stamped, MIN / 2);
        due("less stamps wraps", MAX, stamped.register(1));
        due("its weight", MIN, stamped.item(0, 1));
    }

    private static void dueStamped(int kind, int weight, int want) {
        BaggageHall hall = planned(MAKE, 3, kind, 0, STAMP, 4, 3, 0);
        dueEnd("stamp " + kind + " of weight " + weight, hall, weight);
        due("stamped " + kind + " of weight " + weight, want, hall.register(4));
        due("weight stays, " + kind + " of " + weight, weight, hall.item(3, 1));
        due("stamps, " + kind + " of " + weight, 1, hall.item(3, 2));
    }

    private static void stampsWrapWithTheWeight() {
        dueStamped(TROLLEY, MAX - 1, MAX);
        dueStamped(TROLLEY, MAX, MIN);
        dueStamped(BAG, 1073741822, MAX - 1);
        dueStamped(BAG, 1073741823, MIN);
        dueStamped(CRATE, 1073741822, MAX - 1);
        dueStamped(CRATE, 1073741823, MIN);
        dueStamped(CAGE, 1073741822, MAX - 2);
        dueStamped(CAGE, 1073741823, MAX);
        dueStamped(CAGE, -1, -1);
        dueStamped(DOG, 715827881, MAX - 1);
        dueStamped(DOG, 715827882, MIN + 1);
        dueStamped(DOG, MIN, MIN + 3);
    }

    private static void stampsBeginAt0AndGoUpByOne() {
        BaggageHall hall = new BaggageHall();
        due("act", 0, hall.act(MAKE, 0, TROLLEY, 0));
        for (int i = 1; i < 39; i++) {
            due("act", i, hall.act(STAMP, 1, 0, 0));
        }
        due("act", 39, hall.act(GO, 1, 0, 0));
        due("made alone", 2, hall.run(0, 1));
        due("no stamps at first", 0, hall.item(0, 2));
        due("as many stamps as can be", 2, hall.run(0, 64));
        due("62 stamps", 62, hall.item(0, 2));
        due("told by the last one", 62, hall.register(1));
        due("and once more", 2, hall.run(0, 2));
        due("a new item has none of them", 1, hall.item(0, 2));
    }

    private static void weightsAreAnyNumber() {
        for (int weight : new int[] {MIN, OUTSIDE, -1, 0, 1, MAX}) {
            BaggageHall made = planned(MAKE, 7, BAG, 0, WEIGH, 5, 7, 0);
            dueEnd("made with " + weight, made, weight);
            due("weighed " + weight, weight, made.register(5));
            BaggageHall loaded = planned(SET, 1, 6, 0, MAKE, 7, BAG, 1, STAMP, 2, 7, 0, SAME, 0, 7, 0, LOAD, 7, 0, 0,
                    WEIGH, 5, 0, 0);
            dueEnd("loaded with " + weight, loaded, weight);
            due("weighed at its other place " + weight, weight, loaded.register(5));
            due("weight at 7", weight, loaded.item(7, 1));
            due("stamps stay", 1, loaded.item(7, 2));
            due("it is still one item", 0, loaded.item(7, 3));
        }
    }

    /** A belt, counter or grid 1 with as many places as a register tells. */
    private static void addRow(BaggageHall hall, int op, int register) {
        if (op == COUNTER) {
            hall.act(COUNTER, 1, register, 0);
        } else if (op == BELT) {
            hall.act(BELT, 1, BAG, register);
        } else {
            hall.act(GRID, 1, register, 3);
        }
    }

    private static int placesOf(BaggageHall hall, int op) {
        return hall.row(1, op == BELT ? 0 : op == COUNTER ? 1 : 2);
    }

    private static void sizesFrom0To8() {
        for (int op : ROW_OPS) {
            for (int size = 0; size <= 8; size++) {
                BaggageHall hall = new BaggageHall();
                addRow(hall, op, 0);
                dueEnd("act " + op + " of size " + size, hall, size);
                due("places, act " + op, size, placesOf(hall, op));
            }
        }
        for (int size = 0; size <= 8; size++) {
            BaggageHall hall = planned(BELT, 2, BAG, 0, LONG, 4, 2, 0);
            dueEnd("long of " + size, hall, size);
            due("long", size, hall.register(4));
        }
    }

    private static void dueNoSize(int op, int size, int failure) {
        BaggageHall none = new BaggageHall();
        addRow(none, op, 0);
        dueFailure("act " + op + " of size " + size, none, size, failure, 0);
        due("none is made, act " + op, NONE, placesOf(none, op));
        BaggageHall before = planned(SET, 1, 4, 0);
        addRow(before, op, 1);
        addRow(before, op, 0);
        dueFailure("act " + op + " again, of size " + size, before, size, failure, 2);
        due("the one before stays, act " + op, 4, placesOf(before, op));
    }

    private static void aSizeBelow0IsSize() {
        for (int op : ROW_OPS) {
            for (int size : new int[] {-1, -2, -9, MIN}) {
                dueNoSize(op, size, IS_SIZE);
            }
        }
    }

    private static void aSizeAbove8IsLarge() {
        for (int op : ROW_OPS) {
            for (int size : new int[] {9, 10, 40, MAX}) {
                dueNoSize(op, size, IS_LARGE);
            }
        }
    }

    private static void newBeltsHaveNoneAtAllPlaces() {
        BaggageHall hall = new BaggageHall();
        hall.act(SET, 1, 8, 0);
        hall.act(MAKE, 0, DOG, 1);
        hall.act(BELT, 1, DOG, 1);
        for (int i = 0; i < 8; i++) {
            hall.act(SET, 2, i, 0);
            hall.act(LAY, 1, 2, 0);
        }
        due("a full belt's acts", 19, hall.act(ADD, 3, 3, 0));
        dueEnd("a full belt", hall, 0);
        for (int i = 0; i < 8; i++) {
            due("on a full belt, " + i, DOG, hall.onBelt(1, i));
        }
        due("act", 20, hall.act(BELT, 1, DOG, 1));
        dueEnd("a new belt", hall, 0);
        for (int i = 0; i < 8; i++) {
            due("on a new belt, " + i, NONE, hall.onBelt(1, i));
        }
        due("act", 21, hall.act(PICK, 0, 1, 2));
        dueEnd("a pick from a new belt", hall, 0);
        due("nothing is picked", NONE, hall.item(0, 0));
    }

    private static void newCountersHave0AtAllPlaces() {
        BaggageHall hall = new BaggageHall();
        hall.act(SET, 1, 8, 0);
        hall.act(COUNTER, 1, 1, 0);
        for (int i = 0; i < 8; i++) {
            hall.act(SET, 2, i, 0);
            hall.act(COUNT, 1, 2, 0);
        }
        dueEnd("a full counter", hall, 0);
        for (int i = 0; i < 8; i++) {
            due("on a full counter, " + i, 1, hall.counted(1, i));
        }
        due("act", 18, hall.act(COUNTER, 1, 1, 0));
        due("act", 19, hall.act(HOW, 1, 1, 2));
        dueEnd("a new counter", hall, 0);
        due("told by how", 0, hall.register(1));
        for (int i = 0; i < 8; i++) {
            due("on a new counter, " + i, 0, hall.counted(1, i));
        }
    }

    private static void gridsHaveRowsOf0To5Places() {
        for (int rows = 0; rows <= 8; rows++) {
            for (int width = 0; width <= 5; width++) {
                BaggageHall hall = planned(GRID, 0, 0, width, SUM, 5, 0, 0);
                dueEnd("grid of " + rows + " by " + width, hall, rows);
                due("sum of " + rows + " by " + width, rows * width, hall.register(5));
                due("rows of " + rows + " by " + width, rows, hall.row(0, 2));
            }
        }
        for (int width : beyond(0, 5)) {
            dueRefused("grid of rows of " + width, OUTSIDE, hall -> hall.act(GRID, 0, 0, width));
        }
        BaggageHall again = planned(GRID, 0, 0, 5, SET, 1, 2, 0, GRID, 0, 1, 3, SUM, 5, 0, 0);
        dueEnd("a grid anew", again, 8);
        due("sum of the new one", 6, again.register(5));
    }

    private static boolean isPlace(int i, int size) {
        return i >= 0 && i < size;
    }

    private static void placesOfABelt() {
        for (int size : SIZES) {
            for (int i : new int[] {MIN, -1, 0, size - 1, size, size + 1, 7, 8, MAX}) {
                BaggageHall lay = planned(SET, 1, size, 0, BELT, 0, TROLLEY, 1, MAKE, 0, BAG, 1, LAY, 0, 0, 0);
                BaggageHall pick = planned(SET, 1, size, 0, BELT, 0, TROLLEY, 1, MAKE, 0, BAG, 1, PICK, 0, 0, 0);
                String what = "place " + i + " of a belt of " + size;
                if (isPlace(i, size)) {
                    dueEnd("lay, " + what, lay, i);
                    due("laid, " + what, BAG, lay.onBelt(0, i));
                    dueEnd("pick, " + what, pick, i);
                    due("picked, " + what, NONE, pick.item(0, 0));
                } else {
                    dueFailure("lay, " + what, lay, i, IS_INDEX, 3);
                    dueFailure("pick, " + what, pick, i, IS_INDEX, 3);
                    due("not picked, " + what, BAG, pick.item(0, 0));
                }
                for (int other = 0; other < 8; other++) {
                    due("laid, " + what + ", seen at " + other, other == i && isPlace(i, size) ? BAG : NONE,
                            lay.onBelt(0, other));
                }
            }
        }
    }

    private static void placesOfACounter() {
        for (int size : SIZES) {
            for (int i : new int[] {MIN, -1, 0, size - 1, size, size + 1, 7, 8, MAX}) {
                BaggageHall count = planned(SET, 1, size, 0, COUNTER, 0, 1, 0, COUNT, 0, 0, 0);
                BaggageHall how = planned(SET, 1, size, 0, COUNTER, 0, 1, 0, SET, 1, 9, 0, HOW, 1, 0, 0);
                String what = "place " + i + " of a counter of " + size;
                if (isPlace(i, size)) {
                    dueEnd("count, " + what, count, i);
                    dueEnd("how, " + what, how, i);
                    due("told, " + what, 0, how.register(1));
                } else {
                    dueFailure("count, " + what, count, i, IS_INDEX, 2);
                    dueFailure("how, " + what, how, i, IS_INDEX, 3);
                    due("not told, " + what, 9, how.register(1));
                }
                for (int other = 0; other < 8; other++) {
                    due("counted, " + what + ", seen at " + other, other == i && isPlace(i, size) ? 1 : 0,
                            count.counted(0, other));
                }
            }
        }
    }

    private static void beltsTakeWhatIsOfTheirKind() {
        for (int wanted = 0; wanted < 5; wanted++) {
            for (int kind = 0; kind < 5; kind++) {
                BaggageHall hall = planned(BELT, 0, wanted, 0, MAKE, 0, kind, 0, LAY, 0, 1, 0);
                String what = "a " + kind + " on a belt of " + wanted;
                if (TAKEN[wanted].charAt(kind) == '1') {
                    dueEnd(what, hall, 8);
                    due(what + " is there", kind, hall.onBelt(0, 0));
                } else {
                    dueFailure(what, hall, 8, IS_STORE, 2);
                    due(what + " is not there", NONE, hall.onBelt(0, 0));
                }
                due(what + ", the belt's kind", wanted, hall.row(0, 3));
            }
        }
    }

    private static void beltsTakeNone() {
        for (int kind = 0; kind < 5; kind++) {
            BaggageHall hall = planned(BELT, 0, kind, 0, MAKE, 0, kind, 0, LAY, 0, 1, 0, LAY, 0, 1, 7);
            dueEnd("nothing on what lies on a belt of " + kind, hall, 1);
            due("then nothing lies on a belt of " + kind, NONE, hall.onBelt(0, 0));
            due("the item is still at its place", kind, hall.item(0, 0));
            dueFailure("nothing to no place", planned(BELT, 0, kind, 0, LAY, 0, 0, 7), 1, IS_INDEX, 1);
        }
        dueFailure("nothing on no belt", planned(LAY, 0, 0, 7), 0, IS_NONE, 0);
    }

    private static void pickOfNoneLeavesNone() {
        BaggageHall hall = planned(BELT, 0, TROLLEY, 0, MAKE, 7, BAG, 0, PICK, 7, 0, 1);
        dueEnd("a pick of nothing", hall, 1);
        due("nothing at the place", NONE, hall.item(7, 0));
        BaggageHall weighed = planned(BELT, 0, TROLLEY, 0, MAKE, 7, BAG, 0, PICK, 7, 0, 1, WEIGH, 1, 7, 0);
        dueFailure("nothing to weigh", weighed, 1, IS_NONE, 3);
    }

    private static void asTakesWhatIsOfAKindOrNone() {
        for (int wanted = 0; wanted < 5; wanted++) {
            for (int kind = 0; kind < 5; kind++) {
                BaggageHall hall = planned(MAKE, 7, kind, 0, AS, 7, wanted, 0);
                if (TAKEN[wanted].charAt(kind) == '1') {
                    dueEnd("a " + kind + " as " + wanted, hall, 0);
                } else {
                    dueFailure("a " + kind + " as " + wanted, hall, 0, IS_KIND, 1);
                }
                due("it stays what it is", kind, hall.item(7, 0));
            }
            dueEnd("nothing as " + wanted, planned(AS, 7, wanted, 0), 0);
        }
    }

    private static void onlyWhatIsAliveIsFed() {
        for (int kind = 0; kind < 5; kind++) {
            BaggageHall hall = planned(SET, 1, 50, 0, MAKE, 7, kind, 0, FEED, 1, 7, 0);
            if (kind == CAGE || kind == DOG) {
                dueEnd("feed a " + kind, hall, 10);
                due("it is heavier", kind == CAGE ? 15 : 20, hall.item(7, 1));
            } else {
                dueFailure("feed a " + kind, hall, 10, IS_KIND, 2);
                due("it is no heavier", 10, hall.item(7, 1));
                due("nothing is told", 50, hall.register(1));
            }
        }
        dueFailure("feed nothing", planned(FEED, 1, 7, 0), 0, IS_NONE, 0);
    }

    private static void sameOfNothingIsNothing() {
        BaggageHall hall = planned(MAKE, 0, BAG, 0, SAME, 0, 7, 0, SAME, 6, 6, 0);
        dueEnd("the same as nothing", hall, 3);
        due("nothing there now", NONE, hall.item(0, 0));
        due("nothing as itself", NONE, hall.item(6, 3));
        BaggageHall itself = planned(MAKE, 7, BAG, 0, SAME, 7, 7, 0);
        dueEnd("the same as itself", itself, 3);
        due("it is there", 3, itself.item(7, 1));
    }

    private static void loseDropAndHushDoNotFail() {
        for (int place : new int[] {0, 7}) {
            dueEnd("lose nothing", planned(LOSE, place, 0, 0), 0);
            BaggageHall hall = planned(MAKE, place, BAG, 0, LOSE, place, 0, 0, LOSE, place, 0, 0);
            dueEnd("lose twice", hall, 0);
            due("lost", NONE, hall.item(place, 0));
        }
        for (int belt : new int[] {0, 3}) {
            dueEnd("drop nothing", planned(DROP, belt, 0, 0), 0);
            BaggageHall hall = planned(BELT, belt, BAG, 0, DROP, belt, 0, 0, DROP, belt, 0, 0);
            dueEnd("drop twice", hall, 8);
            due("dropped", NONE, hall.row(belt, 0));
            due("dropped, its kind", NONE, hall.row(belt, 3));
        }
        for (int alarm : new int[] {0, 2}) {
            dueEnd("hush nothing", planned(HUSH, alarm, 0, 0), 0);
            dueEnd("hush twice", planned(ALARM, alarm, 0, 0, HUSH, alarm, 0, 0, HUSH, alarm, 0, 0), 0);
        }
    }

    private static void whatIsNotThereIsNone() {
        for (int x : new int[] {MIN, -1, 0, 1, 8, MAX}) {
            for (int[] act : actsOnNothing()) {
                BaggageHall hall = planned(act);
                dueFailure("act " + act[0] + " on nothing", hall, x, IS_NONE, 0);
                BaggageHall other = new BaggageHall();
                due("a shift of no acts", 0, other.run(x, 0));
                dueSame("act " + act[0] + " on nothing", left(other), left(hall));
            }
        }
    }

    private static void whatIsGoneIsNone() {
        dueFailure("weigh what is lost", planned(MAKE, 7, BAG, 0, LOSE, 7, 0, 0, WEIGH, 1, 7, 0), 0, IS_NONE, 2);
        dueFailure("long of what is dropped", planned(BELT, 3, BAG, 0, DROP, 3, 0, 0, LONG, 1, 3, 0), 1, IS_NONE, 2);
        dueFailure("lay on what is dropped", planned(BELT, 3, BAG, 0, DROP, 3, 0, 0, LAY, 3, 1, 0), 1, IS_NONE, 2);
        dueFailure("pick from what is dropped", planned(BELT, 3, BAG, 0, DROP, 3, 0, 0, PICK, 0, 3, 1), 1, IS_NONE, 2);
        dueFailure("raise what is hushed", planned(ALARM, 2, 0, 0, HUSH, 2, 0, 0, RAISE, 2, 0, 0), 5, IS_NONE, 2);
        BaggageHall back = planned(BELT, 3, BAG, 0, MAKE, 0, CAGE, 0, LAY, 3, 1, 0, DROP, 3, 0, 0, BELT, 3, DOG, 0,
                PICK, 0, 3, 1);
        dueEnd("a belt where one was dropped", back, 1);
        due("of its own kind", DOG, back.row(3, 3));
        due("with nothing on it", NONE, back.item(0, 0));
    }

    private static void alarmsHaveAnyNumber() {
        for (int number : new int[] {MIN, -102, -1, 0, 1, MAX}) {
            BaggageHall hall = planned(ALARM, 2, 0, 0, ADD, 0, 0, 0, RAISE, 2, 0, 0);
            dueFailure("alarm of " + number, hall, number, IS_ALARM, 2);
            due("number " + number, number, hall.told(2));
        }
        BaggageHall again = planned(ALARM, 2, 0, 0, SET, 1, 6, 0, ALARM, 2, 1, 0, RAISE, 2, 0, 0);
        dueFailure("an alarm anew", again, 5, IS_ALARM, 3);
        due("the new one's number", 6, again.told(2));
        BaggageHall back = planned(ALARM, 2, 0, 0, HUSH, 2, 0, 0, ALARM, 2, 1, 0, RAISE, 2, 0, 0);
        dueFailure("an alarm where one was hushed", back, 5, IS_ALARM, 3);
        due("number 0 of it", 0, back.told(2));
    }

    private static void ofSeveralFailuresTheFirst() {
        for (int i : new int[] {MIN, -1, 8, MAX}) {
            dueFailure("lay: NONE, INDEX", planned(MAKE, 0, DOG, 0, LAY, 0, 0, 0), i, IS_NONE, 1);
            dueFailure("pick: NONE, INDEX", planned(PICK, 0, 0, 0), i, IS_NONE, 0);
            dueFailure("count: NONE, INDEX", planned(COUNT, 0, 0, 0), i, IS_NONE, 0);
            dueFailure("how: NONE, INDEX", planned(HOW, 0, 0, 0), i, IS_NONE, 0);
            BaggageHall lay = planned(SET, 1, 8, 0, BELT, 0, BAG, 1, MAKE, 0, DOG, 0, LAY, 0, 0, 0);
            dueFailure("lay: INDEX, STORE", lay, i, IS_INDEX, 3);
        }
        BaggageHall store = planned(SET, 1, 8, 0, BELT, 0, BAG, 1, MAKE, 0, DOG, 0, LAY, 0, 0, 0);
        dueFailure("lay: STORE at the last place", store, 7, IS_STORE, 3);
    }

    /** Each act that can fail, in each of its ways, for the hall that setUp makes. */
    private static final int[][] FAILING = {
        {BELT, 0, DOG, 3, IS_SIZE}, {BELT, 0, DOG, 2, IS_LARGE}, {COUNTER, 0, 3, 0, IS_SIZE},
        {COUNTER, 0, 2, 0, IS_LARGE}, {GRID, 0, 3, 1, IS_SIZE}, {GRID, 0, 2, 1, IS_LARGE},
        {LAY, 1, 4, 1, IS_NONE}, {LAY, 0, 2, 1, IS_INDEX}, {LAY, 0, 4, 0, IS_STORE},
        {PICK, 1, 1, 4, IS_NONE}, {PICK, 1, 0, 3, IS_INDEX}, {LONG, 5, 1, 0, IS_NONE},
        {WEIGH, 5, 7, 0, IS_NONE}, {LOAD, 7, 5, 0, IS_NONE}, {STAMP, 5, 7, 0, IS_NONE},
        {FEED, 5, 1, 0, IS_KIND}, {FEED, 5, 7, 0, IS_NONE}, {AS, 1, DOG, 0, IS_KIND},
        {COUNT, 1, 4, 0, IS_NONE}, {COUNT, 0, 2, 0, IS_INDEX}, {HOW, 5, 1, 4, IS_NONE}, {HOW, 5, 0, 3, IS_INDEX},
        {SUM, 5, 1, 0, IS_NONE}, {RAISE, 1, 0, 0, IS_NONE}, {RAISE, 0, 0, 0, IS_ALARM}};

    private static BaggageHall setUp() {
        return planned(SET, 1, 2, 0, SET, 2, 9, 0, SET, 3, -1, 0, BELT, 0, BAG, 1, COUNTER, 0, 1, 0, COUNT, 0, 4, 0,
                GRID, 0, 1, 3, MAKE, 0, DOG, 1, MAKE, 1, CRATE, 1, STAMP, 5, 1, 0, LAY, 0, 4, 1, ALARM, 0, 5, 0,
                SET, 5, 77, 0);
    }

    /** Grids and alarms can't be asked from outside: the acts behind tell of them. */
    private static void addTail(BaggageHall hall) {
        hall.act(SUM, 4, 0, 0);
        hall.act(RAISE, 0, 0, 0);
    }

    private static void aFailedActHasDoneNothingElse() {
        for (int[] act : FAILING) {
            String what = "failed act " + act[0] + " by " + act[4];
            BaggageHall failed = setUp();
            due(what + ", line", 13, failed.act(act[0], act[1], act[2], act[3]));
            dueFailure(what, failed, 0, act[4], 13);
            BaggageHall without = setUp();
            dueEnd("without it", without, 0);
            dueSame(what, left(without), left(failed));
            addTail(failed);
            due("guard", 0, failed.guard(13, 14, act[4], 14));
            dueFailure(what + ", then an alarm", failed, 0, IS_ALARM, 15);
            BaggageHall tail = setUp();
            addTail(tail);
            dueFailure("an alarm", tail, 0, IS_ALARM, 14);
            dueSame(what + ", then", left(tail), left(failed));
            due(what + ", then the number", tail.told(2), failed.told(2));
            due(what + " is an act done", tail.told(3) + 1, failed.told(3));
            due(what + " went to a guard", 1, failed.caught(act[4]));
        }
    }
}
