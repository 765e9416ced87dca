/** For each promise of the document: ordinary calls, its edges and wrong numbers, with answers worked out by hand. */
public final class PromisesTest extends HallChecks {
    public static void main(String[] args) {
        newObject();
        actNumbers();
        actRoom();
        guardNumbers();
        guardRoom();
        clearing();
        runEndsAndLimits();
        mostItemsInAShift();
        runBeginsAnew();
        jumps();
        guardsTakeFailures();
        itemActs();
        stampAndFeed();
        kinds();
        beltActs();
        beltsTakeKinds();
        counterActs();
        gridActs();
        alarmActs();
        failedActsDoNothingElse();
        firstFailureCounts();
        registersWrap();
        toldAnswers();
        caughtAnswers();
        registerAnswers();
        itemAnswers();
        rowAnswers();
        onBeltAnswers();
        countedAnswers();
        refusalsChangeNothing();
        CHECKS.end();
    }

    private static void dueEmpty(String what, BaggageHall hall) {
        for (int i = 0; i < 8; i++) {
            due(what + " item " + i, NONE, hall.item(i, i % 4));
        }
        for (int i = 0; i < 4; i++) {
            due(what + " belt " + i, NONE, hall.row(i, 0));
            due(what + " belt's kind " + i, NONE, hall.row(i, 3));
            due(what + " on belt " + i, NONE, hall.onBelt(i, 0));
        }
        for (int i = 0; i < 3; i++) {
            due(what + " counter " + i, NONE, hall.row(i, 1));
            due(what + " counted " + i, 0, hall.counted(i, 0));
        }
        for (int i = 0; i < 2; i++) {
            due(what + " grid " + i, NONE, hall.row(i, 2));
        }
        for (int i = 1; i < 6; i++) {
            due(what + " register " + i, 0, hall.register(i));
        }
        for (int i = 1; i < 8; i++) {
            due(what + " caught " + i, 0, hall.caught(i));
        }
        int[] told = {0, NONE, 0, 0, 0};
        for (int i = 0; i < 5; i++) {
            due(what + " told " + i, told[i], hall.told(i));
        }
    }

    // promise 1

    private static void newObject() {
        BaggageHall hall = new BaggageHall();
        dueEmpty("new", hall);
        due("new register 0", 0, hall.register(0));
        due("new has no acts", 0, hall.run(0, 0));
        due("new clear", 0, hall.clear());
        due("new guard", 0, hall.guard(0, 1, 0, 0));
        due("new act", 0, hall.act(GO, 0, 0, 0));
    }

    // promise 2

    private static void actNumbers() {
        // how many numbers from 0 on are good; 0: all are
        int[][] bounds = {
            {8, 5, 6}, {8, 0, 0}, {8, 8, 0}, {4, 5, 6}, {4, 6, 8}, {8, 4, 6}, {6, 4, 0}, {4, 0, 0}, {6, 8, 0},
            {8, 6, 0}, {6, 8, 0}, {6, 8, 0}, {8, 5, 0}, {3, 6, 0}, {3, 6, 0}, {6, 3, 6}, {2, 6, 6}, {6, 2, 0},
            {3, 6, 0}, {3, 0, 0}, {3, 0, 0}, {6, 0, 0}, {6, 6, 0}, {41, 0, 0}, {6, 41, 0}};
        for (int op = 0; op < bounds.length; op++) {
            BaggageHall hall = new BaggageHall();
            int line = 0;
            for (int i = 0; i < 3; i++) {
                int bound = bounds[op][i];
                int[] good = bound == 0 ? new int[] {MIN, -1, 0, 1000, MAX} : new int[] {0, bound - 1};
                int[] bad = bound == 0 ? new int[0] : new int[] {MIN, -1, bound, MAX};
                for (int number : good) {
                    due("act " + op + " number " + i + " = " + number, line, actWith(hall, op, i, number));
                    line++;
                }
                for (int number : bad) {
                    due("act " + op + " number " + i + " = " + number, OUTSIDE, actWith(hall, op, i, number));
                }
            }
            due("acts of op " + op, line, hall.clear());
        }
        for (int op : new int[] {MIN, -1, 25, MAX}) {
            due("act " + op, OUTSIDE, new BaggageHall().act(op, 0, 0, 0));
        }
    }

    private static int actWith(BaggageHall hall, int op, int i, int number) {
        return hall.act(op, i == 0 ? number : 0, i == 1 ? number : 0, i == 2 ? number : 0);
    }

    private static void actRoom() {
        BaggageHall hall = new BaggageHall();
        for (int i = 0; i < 40; i++) {
            due("act " + i, i, hall.act(ADD, 1, 0, 0));
        }
        due("41st act", ROOM, hall.act(ADD, 1, 0, 0));
        due("41st act, bad op", OUTSIDE, hall.act(25, 1, 0, 0));
        due("41st act, bad number", OUTSIDE, hall.act(ADD, 6, 0, 0));
        due("forty acts", 0, hall.run(3, 40));
        due("all forty are done", 120, hall.register(1));
        due("clear", 40, hall.clear());
        due("act again", 0, hall.act(ADD, 1, 0, 0));
    }

    // promise 3

    private static void guardNumbers() {
        int[][] good = {{0, 1, 0, 0}, {39, 40, 7, 40}, {0, 40, 3, 20}};
        for (int[] g : good) {
            due("good guard", 0, new BaggageHall().guard(g[0], g[1], g[2], g[3]));
        }
        int[][] bad = {{-1, 1, 0, 0}, {MIN, 1, 0, 0}, {0, 0, 0, 0}, {5, 5, 0, 0}, {5, 4, 0, 0}, {0, 41, 0, 0},
            {0, MAX, 0, 0}, {40, 41, 0, 0}, {40, 40, 0, 0}, {0, MIN, 0, 0}, {MAX, MIN, 0, 0}, {0, 1, -1, 0},
            {0, 1, 8, 0}, {0, 1, MIN, 0}, {0, 1, 0, -1}, {0, 1, 0, 41}, {0, 1, 0, MAX}};
        BaggageHall hall = new BaggageHall();
        for (int[] g : bad) {
            due("bad guard " + g[0] + " " + g[1] + " " + g[2] + " " + g[3], OUTSIDE, hall.guard(g[0], g[1], g[2], g[3]));
        }
        due("bad guards are not kept", 0, hall.guard(0, 1, 0, 0));
    }

    private static void guardRoom() {
        BaggageHall hall = new BaggageHall();
        for (int i = 0; i < 5; i++) {
            due("guard " + i, i, hall.guard(0, 40, 0, 0));
        }
        due("sixth guard", ROOM, hall.guard(0, 40, 0, 0));
        due("sixth guard, bad", OUTSIDE, hall.guard(0, 41, 0, 0));
        due("guards are no acts", 0, hall.clear());
        due("guard after clear", 0, hall.guard(0, 40, 0, 0));
    }

    // promise 4

    private static void clearing() {
        BaggageHall hall = planned(MAKE, 2, 4, 0, BELT, 0, 1, 0, RAISE, 0, 0, 0, WEIGH, 0, 7, 0);
        hall.guard(2, 3, 1, 3);
        dueFailure("before clear", hall, 5, 1, 3);
        due("clear", 4, hall.clear());
        due("clear again", 0, hall.clear());
        due("told stays", 1, hall.told(0));
        due("line stays", 3, hall.told(1));
        due("done stays", 4, hall.told(3));
        due("caught stays", 1, hall.caught(1));
        due("item stays", 5, hall.item(2, 1));
        due("belt stays", 5, hall.row(0, 0));
        due("register stays", 5, hall.register(0));
        due("an act after clear", 0, hall.act(RAISE, 0, 0, 0));
        dueFailure("no guard is left", hall, 0, 1, 0);
    }

    // promise 5

    private static void runEndsAndLimits() {
        BaggageHall hall = planned(SET, 1, 7, 0, SET, 2, 8, 0);
        due("no act may be done", 2, hall.run(9, 0));
        due("none was done", 0, hall.told(3));
        due("it was given 9", 9, hall.register(0));
        due("one act", 2, hall.run(0, 1));
        due("first is done", 7, hall.register(1));
        due("second is not", 0, hall.register(2));
        due("just enough", 0, hall.run(0, 2));
        due("both are done", 8, hall.register(2));
        for (int many : new int[] {MIN, -1, 65, MAX}) {
            due("run many = " + many, OUTSIDE, hall.run(33, many));
        }
        due("a refused run gives nothing", 0, hall.register(0));
        due("a refused run changes nothing", 8, hall.register(2));
        BaggageHall endless = planned(ADD, 1, 0, 0, GO, 0, 0, 0);
        due("endless", 2, endless.run(1, 64));
        due("endless did 64", 64, endless.told(3));
        due("endless added", 32, endless.register(1));
        BaggageHall failing = planned(WEIGH, 0, 0, 0);
        due("a failing act as the last one", 1, failing.run(0, 1));
        due("not done at all", 2, failing.run(0, 0));
        due("no failure then", 0, failing.told(0));
        failing.guard(0, 1, 1, 0);
        due("guarded back to itself", 2, failing.run(0, 64));
        due("taken each time", 64, failing.caught(1));
        for (int x : new int[] {MIN, -1, MAX}) {
            due("any x", 2, failing.run(x, 0));
            due("x is given", x, failing.register(0));
        }
    }

    private static void mostItemsInAShift() {
        BaggageHall hall = new BaggageHall();
        for (int i = 0; i < 39; i++) {
            hall.act(MAKE, i % 8, i % 5, 0);
        }
        hall.act(GO, 0, 0, 0);
        for (int x = 1; x < 9; x++) {
            due("items all the time", 2, hall.run(x, 64));
            due("the newest item's kind", 23 % 5, hall.item(23 % 8, 0));
            due("the newest item's weight", x, hall.item(23 % 8, 1));
            due("the newest item's place", 23 % 8, hall.item(23 % 8, 3));
        }
    }

    private static void runBeginsAnew() {
        BaggageHall hall = planned(SET, 1, 2, 0, MAKE, 0, 3, 1, BELT, 1, 0, 1, LAY, 1, 2, 0, COUNTER, 2, 1, 0,
                COUNT, 2, 2, 0, GRID, 1, 1, 5, ALARM, 0, 1, 0, STAMP, 3, 0, 0, WEIGH, 4, 7, 0, RAISE, 0, 0, 0);
        hall.guard(9, 10, 0, 10);
        dueFailure("a full shift", hall, 0, 7, 10);
        due("alarm number", 2, hall.told(2));
        due("an empty shift", 2, hall.run(0, 0));
        dueEmpty("begun anew", hall);
        due("cleared", 11, hall.clear());
        hall.act(RAISE, 0, 0, 0);
        dueFailure("alarm is gone", hall, 0, 1, 0);
        due("no alarm number", 0, hall.told(2));
        hall.clear();
        hall.act(BELT, 1, 0, 0);
        hall.act(COUNTER, 2, 0, 0);
        hall.act(MAKE, 0, 3, 0);
        dueEnd("new rows", hall, 3);
        due("nothing on a new belt", NONE, hall.onBelt(1, 0));
        due("nothing counted on a new counter", 0, hall.counted(2, 0));
        due("no stamps on a new item", 0, hall.item(0, 2));
    }

    private static void jumps() {
        BaggageHall go = planned(GO, 2, 0, 0, SET, 1, 1, 0, SET, 2, 2, 0);
        dueEnd("go", go, 0);
        due("go passed by", 0, go.register(1));
        due("go came to", 2, go.register(2));
        due("go counts", 2, go.told(3));
        for (int line : new int[] {1, 2, 39, 40}) {
            BaggageHall behind = planned(GO, line, 0, 0);
            due("go behind the last", 0, behind.run(0, 1));
            due("go behind counts", 1, behind.told(3));
        }
        int[][] cases = {{0, 0}, {-1, 0}, {MIN, 0}, {1, 1}, {MAX, 1}};
        for (int[] c : cases) {
            BaggageHall when = planned(IF, 0, 2, 0, SET, 1, 1, 0);
            dueEnd("if " + c[0], when, c[0]);
            due("if " + c[0] + " goes on", c[1], when.register(1));
        }
        BaggageHall loop = planned(SET, 1, -1, 0, IF, 0, 40, 0, ADD, 0, 1, 0, ADD, 2, 0, 0, GO, 1, 0, 0);
        dueEnd("a loop", loop, 5);
        due("a loop's sum", 10, loop.register(2));
        due("a loop's acts", 22, loop.told(3));
    }

    private static void guardsTakeFailures() {
        BaggageHall first = planned(WEIGH, 1, 0, 0, SET, 2, 5, 0, SET, 3, 6, 0);
        first.guard(1, 40, 0, 40);
        first.guard(0, 1, 3, 40);
        first.guard(0, 1, 1, 2);
        first.guard(0, 1, 0, 1);
        dueEnd("the first that fits", first, 0);
        due("went to the third guard", 0, first.register(2));
        due("on at its line", 6, first.register(3));
        BaggageHall any = planned(WEIGH, 1, 0, 0, SET, 2, 5, 0, SET, 3, 6, 0);
        any.guard(0, 40, 0, 1);
        any.guard(0, 40, 1, 2);
        dueEnd("any comes first", any, 0);
        due("went to the first guard", 5, any.register(2));
        BaggageHall edges = planned(SET, 1, 0, 0, WEIGH, 1, 0, 0);
        edges.guard(0, 1, 0, 40);
        edges.guard(2, 40, 0, 40);
        dueFailure("from and to are edges", edges, 0, 1, 1);
        edges.guard(1, 2, 7, 40);
        dueFailure("another failure", edges, 0, 1, 1);
        edges.guard(1, 2, 1, 40);
        due("to a line without an act", 0, edges.run(0, 64));
        due("a taken failure is not told", 0, edges.told(0));
        due("nor its line", NONE, edges.told(1));
        due("but counted", 1, edges.told(4));
    }

    private static void itemActs() {
        BaggageHall hall = planned(MAKE, 0, 1, 0, SAME, 3, 0, 0, SET, 1, 50, 0, LOAD, 3, 1, 0, WEIGH, 2, 0, 0,
                LOSE, 0, 0, 0, WEIGH, 4, 3, 0, SAME, 5, 0, 0, MAKE, 6, 4, 2, SAME, 6, 7, 0);
        dueEnd("items", hall, 9);
        due("one item at two places", 50, hall.register(2));
        due("lost at one place", NONE, hall.item(0, 0));
        due("still at the other", 50, hall.register(4));
        due("the same as nothing", NONE, hall.item(5, 0));
        due("nothing comes to a place that had one", NONE, hall.item(6, 0));
        dueEnd("lose where nothing is", planned(LOSE, 7, 0, 0), 0);
        dueFailure("weigh nothing", planned(WEIGH, 0, 1, 0), 0, 1, 0);
        dueFailure("load nothing", planned(LOAD, 1, 0, 0), 0, 1, 0);
        dueFailure("stamp nothing", planned(STAMP, 0, 1, 0), 0, 1, 0);
        dueFailure("feed nothing", planned(FEED, 0, 1, 0), 0, 1, 0);
    }

    private static void stampAndFeed() {
        int[] once = {11, 22, 22, 21, 33};
        int[] twice = {12, 24, 24, 23, 36};
        for (int kind = 0; kind < 5; kind++) {
            BaggageHall hall = planned(MAKE, 2, kind, 0, STAMP, 1, 2, 0, STAMP, 3, 2, 0);
            dueEnd("stamp " + kind, hall, 10);
            due("stamped once, kind " + kind, once[kind], hall.register(1));
            due("stamped twice, kind " + kind, twice[kind], hall.register(3));
            due("stamps", 2, hall.item(2, 2));
            due("weight is as it was", 10, hall.item(2, 1));
        }
        for (int kind = 0; kind < 3; kind++) {
            dueFailure("feed " + kind, planned(MAKE, 2, kind, 0, FEED, 1, 2, 0), 10, 4, 1);
        }
        BaggageHall cage = planned(MAKE, 2, 3, 0, STAMP, 1, 2, 0, FEED, 1, 2, 0, FEED, 3, 2, 0);
        dueEnd("feed a cage", cage, 10);
        due("cage fed once", 15, cage.register(1));
        due("cage fed twice", 20, cage.register(3));
        due("cage's weight", 20, cage.item(2, 1));
        BaggageHall dog = planned(MAKE, 2, 4, 0, STAMP, 1, 2, 0, STAMP, 1, 2, 0, FEED, 1, 2, 0, FEED, 3, 2, 0);
        dueEnd("feed a dog", dog, 10);
        due("dog fed once", 18, dog.register(1));
        due("dog fed twice", 38, dog.register(3));
        due("dog's weight", 40, dog.item(2, 1));
        due("dog's stamps", 2, dog.item(2, 2));
    }

    private static void kinds() {
        for (int wanted = 0; wanted < 5; wanted++) {
            for (int kind = 0; kind < 5; kind++) {
                BaggageHall hall = planned(MAKE, 1, kind, 0, AS, 1, wanted, 0);
                if (TAKEN[wanted].charAt(kind) == '1') {
                    dueEnd("as " + wanted + " of " + kind, hall, 0);
                } else {
                    dueFailure("as " + wanted + " of " + kind, hall, 0, 4, 1);
                }
            }
            dueEnd("as " + wanted + " of nothing", planned(AS, 1, wanted, 0), 0);
        }
    }

    private static void beltActs() {
        for (int size : new int[] {0, 1, 8}) {
            BaggageHall hall = planned(BELT, 3, 2, 0, LONG, 1, 3, 0);
            dueEnd("belt of " + size, hall, size);
            due("long", size, hall.register(1));
            due("its kind", 2, hall.row(3, 3));
        }
        dueFailure("belt of -1", planned(BELT, 0, 0, 0), -1, 2, 0);
        dueFailure("belt of least", planned(BELT, 0, 0, 0), MIN, 2, 0);
        dueFailure("belt of 9", planned(BELT, 0, 0, 0), 9, 6, 0);
        dueFailure("belt of most", planned(BELT, 0, 0, 0), MAX, 6, 0);
        dueFailure("long of nothing", planned(LONG, 0, 1, 0), 0, 1, 0);
        dueFailure("lay on nothing", planned(LAY, 0, 1, 0), 0, 1, 0);
        dueFailure("pick from nothing", planned(PICK, 0, 0, 1), 0, 1, 0);
        dueEnd("drop nothing", planned(DROP, 0, 0, 0), 0);
        BaggageHall dropped = planned(BELT, 2, 1, 0, DROP, 2, 0, 0, LONG, 1, 2, 0);
        dueFailure("a dropped belt", dropped, 3, 1, 2);
        due("a dropped belt has no kind", NONE, dropped.row(2, 3));
        for (int index : new int[] {MIN, -1, 3, 8, MAX}) {
            dueFailure("lay at " + index, planned(SET, 1, 3, 0, BELT, 0, 0, 1, LAY, 0, 0, 0), index, 3, 2);
            dueFailure("pick at " + index, planned(SET, 1, 3, 0, BELT, 0, 0, 1, PICK, 0, 0, 0), index, 3, 2);
        }
        BaggageHall hall = planned(SET, 1, 3, 0, BELT, 0, 0, 1, SET, 2, 2, 0, MAKE, 4, 4, 2, LAY, 0, 2, 4,
                PICK, 6, 0, 2, LAY, 0, 3, 6, FEED, 5, 6, 0, PICK, 4, 0, 5, LAY, 0, 3, 7);
        hall.guard(8, 9, 3, 9);
        dueEnd("a belt's use", hall, 0);
        due("picked is the item laid", 4, hall.item(6, 3));
        due("fed through another place", 4, hall.item(4, 1));
        due("nothing laid on what lay there", NONE, hall.onBelt(0, 0));
        due("nothing ever there", NONE, hall.onBelt(0, 1));
        due("what lies there", 4, hall.onBelt(0, 2));
        BaggageHall anew = planned(MAKE, 0, 1, 0, BELT, 0, 1, 0, LAY, 0, 1, 0, BELT, 0, 1, 0, MAKE, 1, 2, 0, PICK, 1, 0, 1);
        dueEnd("a belt anew", anew, 4);
        due("all NONE anew", NONE, anew.onBelt(0, 0));
        due("nothing is picked", NONE, anew.item(1, 0));
    }

    private static void beltsTakeKinds() {
        for (int belt = 0; belt < 5; belt++) {
            for (int kind = 0; kind < 5; kind++) {
                BaggageHall hall = planned(BELT, 1, belt, 0, MAKE, 0, kind, 0, LAY, 1, 2, 0);
                if (TAKEN[belt].charAt(kind) == '1') {
                    dueEnd("lay " + kind + " on " + belt, hall, 1);
                    due("it lies there", kind, hall.onBelt(1, 0));
                } else {
                    dueFailure("lay " + kind + " on " + belt, hall, 1, 5, 2);
                    due("it does not lie there", NONE, hall.onBelt(1, 0));
                }
            }
            dueEnd("lay nothing on " + belt, planned(BELT, 1, belt, 0, LAY, 1, 2, 0), 1);
        }
    }

    private static void counterActs() {
        for (int size : new int[] {0, 1, 8}) {
            BaggageHall hall = planned(COUNTER, 2, 0, 0);
            dueEnd("counter of " + size, hall, size);
            due("its places", size, hall.row(2, 1));
        }
        dueFailure("counter of -1", planned(COUNTER, 0, 0, 0), -1, 2, 0);
        dueFailure("counter of 9", planned(COUNTER, 0, 0, 0), 9, 6, 0);
        dueFailure("count nowhere", planned(COUNT, 0, 0, 0), 0, 1, 0);
        dueFailure("how nowhere", planned(HOW, 0, 0, 0), 0, 1, 0);
        for (int index : new int[] {MIN, -1, 2, 8, MAX}) {
            dueFailure("count at " + index, planned(SET, 1, 2, 0, COUNTER, 0, 1, 0, COUNT, 0, 0, 0), index, 3, 2);
            dueFailure("how at " + index, planned(SET, 1, 2, 0, COUNTER, 0, 1, 0, HOW, 3, 0, 0), index, 3, 2);
        }
        BaggageHall hall = planned(SET, 1, 2, 0, COUNTER, 0, 1, 0, COUNT, 0, 0, 0, COUNT, 0, 0, 0, HOW, 3, 0, 0,
                HOW, 4, 0, 5);
        dueEnd("counting", hall, 1);
        due("counted twice", 2, hall.register(3));
        due("not counted", 0, hall.register(4));
        BaggageHall anew = planned(COUNTER, 0, 0, 0, COUNT, 0, 1, 0, COUNTER, 0, 0, 0);
        dueEnd("a counter anew", anew, 2);
        due("all 0 anew", 0, anew.counted(0, 0));
    }

    private static void gridActs() {
        int[][] cases = {{0, 0}, {0, 5}, {1, 0}, {3, 4}, {8, 5}};
        for (int[] c : cases) {
            BaggageHall hall = planned(GRID, 1, 0, c[1], SUM, 2, 1, 0);
            dueEnd("grid", hall, c[0]);
            due("all places", c[0] * c[1], hall.register(2));
            due("rows", c[0], hall.row(1, 2));
        }
        dueFailure("grid of -1", planned(GRID, 0, 0, 5), -1, 2, 0);
        dueFailure("grid of 9", planned(GRID, 0, 0, 0), 9, 6, 0);
        dueFailure("sum of nothing", planned(SUM, 0, 0, 0), 0, 1, 0);
    }

    private static void alarmActs() {
        dueFailure("raise nothing", planned(RAISE, 1, 0, 0), 0, 1, 0);
        dueEnd("hush nothing", planned(HUSH, 1, 0, 0), 0);
        BaggageHall raised = planned(ALARM, 1, 0, 0, SET, 0, 3, 0, RAISE, 1, 0, 0);
        dueFailure("raise", raised, -7, 7, 2);
        due("the number it was made with", -7, raised.told(2));
        BaggageHall hushed = planned(ALARM, 1, 0, 0, HUSH, 1, 0, 0, RAISE, 1, 0, 0);
        dueFailure("raise what is hushed", hushed, 9, 1, 2);
        due("no number of it", 0, hushed.told(2));
        BaggageHall two = planned(ALARM, 0, 0, 0, SET, 1, 8, 0, ALARM, 2, 1, 0, RAISE, 2, 0, 0, RAISE, 0, 0, 0,
                RAISE, 1, 0, 0);
        two.guard(3, 4, 7, 4);
        two.guard(4, 5, 7, 5);
        dueFailure("the last raised", two, 6, 1, 5);
        due("its number", 6, two.told(2));
        due("both were taken", 2, two.caught(7));
    }

    private static void failedActsDoNothingElse() {
        int[][] acts = {{BELT, 0, 4, 2}, {BELT, 0, 4, 3}, {COUNTER, 0, 2, 0}, {COUNTER, 0, 3, 0}, {GRID, 0, 2, 1},
            {GRID, 0, 3, 1}, {LAY, 0, 4, 0}, {LAY, 0, 2, 1}, {PICK, 1, 0, 2}, {PICK, 1, 1, 4}, {FEED, 5, 1, 0},
            {FEED, 5, 7, 0}, {STAMP, 5, 7, 0}, {WEIGH, 5, 7, 0}, {LOAD, 7, 5, 0}, {COUNT, 0, 3, 0}, {HOW, 5, 0, 3},
            {HOW, 5, 1, 4}, {LONG, 5, 1, 0}, {SUM, 5, 1, 0}, {AS, 1, 4, 0}};
        int[] failures = {6, 2, 6, 2, 6, 2, 5, 3, 3, 1, 4, 1, 1, 1, 1, 3, 3, 1, 1, 1, 4};
        for (int i = 0; i < acts.length; i++) {
            BaggageHall hall = planned(SET, 1, 2, 0, SET, 2, 9, 0, SET, 3, -1, 0, BELT, 0, 1, 1, COUNTER, 0, 1, 0,
                    COUNT, 0, 4, 0, GRID, 0, 1, 3, MAKE, 0, 4, 1, MAKE, 1, 2, 1, LAY, 0, 4, 1, SET, 5, 77, 0);
            hall.act(acts[i][0], acts[i][1], acts[i][2], acts[i][3]);
            String what = "failing act " + acts[i][0];
            dueFailure(what, hall, 0, failures[i], 11);
            due(what + " leaves the register", 77, hall.register(5));
            due(what + " leaves the belt", 2, hall.row(0, 0));
            due(what + " leaves the belt's kind", 1, hall.row(0, 3));
            due(what + " leaves what lies there", 2, hall.onBelt(0, 0));
            due(what + " leaves the counter", 2, hall.row(0, 1));
            due(what + " leaves what is counted", 1, hall.counted(0, 0));
            due(what + " leaves the grid", 2, hall.row(0, 2));
            due(what + " leaves the place", 2, hall.item(1, 0));
            due(what + " leaves the weight", 2, hall.item(1, 1));
            due(what + " leaves the stamps", 0, hall.item(1, 2));
            due(what + " leaves the empty place", NONE, hall.item(7, 0));
            due(what + " is an act done", 12, hall.told(3));
        }
    }

    private static void firstFailureCounts() {
        dueFailure("lay: nothing there before a bad index", planned(MAKE, 0, 4, 0, LAY, 0, 0, 0), -1, 1, 1);
        dueFailure("lay: a bad index before a kind not taken",
                planned(BELT, 0, 1, 0, MAKE, 0, 4, 0, LAY, 0, 0, 0), 1, 3, 2);
        dueFailure("pick: nothing there before a bad index", planned(PICK, 0, 0, 0), 99, 1, 0);
        dueFailure("count: nothing there before a bad index", planned(COUNT, 0, 0, 0), -1, 1, 0);
        dueFailure("how: nothing there before a bad index", planned(HOW, 0, 0, 0), -1, 1, 0);
    }

    private static void registersWrap() {
        BaggageHall sum = planned(SET, 1, 1, 0, ADD, 0, 1, 0, ADD, 2, 0, 0, ADD, 2, 2, 0);
        dueEnd("sum", sum, MAX);
        due("add wraps", MIN, sum.register(0));
        due("add to itself wraps", 0, sum.register(2));
        BaggageHall dog = planned(MAKE, 0, 4, 0, STAMP, 1, 0, 0, FEED, 2, 0, 0);
        dueEnd("a heavy dog", dog, MAX);
        due("stamp wraps", 3 * MIN, dog.register(1));
        due("feed wraps", -3, dog.register(2));
        due("weight wraps", -2, dog.item(0, 1));
        BaggageHall cage = planned(MAKE, 0, 3, 0, FEED, 2, 0, 0, STAMP, 1, 0, 0);
        dueEnd("a heavy cage", cage, MAX);
        due("cage's feed wraps", MIN + 4, cage.register(2));
        due("cage's stamp wraps", 9, cage.register(1));
        BaggageHall set = planned(SET, 1, MIN, 0, SET, 2, MAX, 0);
        dueEnd("set", set, 0);
        due("set least", MIN, set.register(1));
        due("set most", MAX, set.register(2));
    }

    // promise 6

    private static void toldAnswers() {
        BaggageHall hall = planned(ALARM, 0, 0, 0, RAISE, 0, 0, 0, WEIGH, 0, 0, 0, LOAD, 0, 0, 0);
        hall.guard(1, 2, 7, 2);
        hall.guard(2, 3, 1, 3);
        due("told: run", 1, hall.run(12, 64));
        int[] want = {1, 3, 12, 4, 2};
        for (int i = 0; i < 5; i++) {
            due("told " + i, want[i], hall.told(i));
        }
        for (int what : new int[] {MIN, -1, 5, MAX}) {
            due("told " + what, OUTSIDE, hall.told(what));
        }
    }

    // promise 7

    private static void caughtAnswers() {
        int[][] failing = {{WEIGH, 5, 7, 0}, {BELT, 0, 1, 2}, {LAY, 0, 1, 0}, {AS, 0, 4, 0}, {LAY, 0, 4, 0},
            {BELT, 0, 1, 1}, {RAISE, 0, 0, 0}};
        for (int failure = 1; failure < 8; failure++) {
            int[] act = failing[failure - 1];
            BaggageHall hall = planned(SET, 1, 9, 0, SET, 2, -1, 0, SET, 3, 1, 0, MAKE, 0, 0, 0, BELT, 0, 1, 3,
                    ALARM, 0, 1, 0, act[0], act[1], act[2], act[3], act[0], act[1], act[2], act[3],
                    act[0], act[1], act[2], act[3]);
            hall.guard(6, 7, failure, 7);
            hall.guard(7, 8, failure, 8);
            dueFailure("caught twice, then not", hall, 0, failure, 8);
            for (int other = 1; other < 8; other++) {
                due("caught " + other + " of " + failure, other == failure ? 2 : 0, hall.caught(other));
            }
            due("all caught", 2, hall.told(4));
        }
        for (int failure : new int[] {MIN, -1, 0, 8, MAX}) {
            due("caught " + failure, OUTSIDE, new BaggageHall().caught(failure));
        }
    }

    // promise 8

    private static void registerAnswers() {
        BaggageHall hall = planned(SET, 1, 11, 0, SET, 2, 12, 0, SET, 3, 13, 0, SET, 4, 14, 0, SET, 5, 15, 0);
        dueEnd("registers", hall, 10);
        for (int i = 0; i < 6; i++) {
            due("register " + i, 10 + i, hall.register(i));
        }
        for (int which : new int[] {MIN, -1, 6, MAX}) {
            due("register " + which, 0, hall.register(which));
        }
    }

    // promise 9

    private static void itemAnswers() {
        BaggageHall hall = planned(MAKE, 5, 3, 0, SAME, 2, 5, 0, MAKE, 7, 3, 0, STAMP, 1, 5, 0, SAME, 6, 7, 0,
                MAKE, 0, 0, 0);
        dueEnd("items", hall, 20);
        int[][] want = {{0, 20, 0, 0}, {NONE, NONE, NONE, NONE}, {3, 20, 1, 2}, {NONE, NONE, NONE, NONE},
            {NONE, NONE, NONE, NONE}, {3, 20, 1, 2}, {3, 20, 0, 6}, {3, 20, 0, 6}};
        for (int place = 0; place < 8; place++) {
            for (int what = 0; what < 4; what++) {
                due("item " + place + " " + what, want[place][what], hall.item(place, what));
            }
        }
        for (int bad : new int[] {MIN, -1, 8, MAX}) {
            due("item at " + bad, OUTSIDE, hall.item(bad, 0));
            due("item's " + bad, OUTSIDE, hall.item(0, bad));
            due("nothing's " + bad, OUTSIDE, hall.item(1, bad));
        }
        due("item's 4", OUTSIDE, hall.item(0, 4));
    }

    // promise 10

    private static void rowAnswers() {
        BaggageHall hall = planned(BELT, 3, 4, 0, COUNTER, 2, 0, 0, SET, 1, 6, 0, GRID, 1, 1, 0, BELT, 0, 0, 1);
        dueEnd("rows", hall, 5);
        int[][] want = {{6, NONE, NONE, 0}, {NONE, NONE, 6, NONE}, {NONE, 5, OUTSIDE, NONE}, {5, OUTSIDE, OUTSIDE, 4}};
        for (int which = 0; which < 4; which++) {
            for (int what = 0; what < 4; what++) {
                due("row " + which + " " + what, want[which][what], hall.row(which, what));
            }
        }
        for (int bad : new int[] {MIN, -1, 4, MAX}) {
            for (int good = 0; good < 4; good++) {
                due("row " + bad + " " + good, OUTSIDE, hall.row(bad, good));
                due("row " + good + " " + bad, OUTSIDE, hall.row(good, bad));
            }
        }
    }

    // promise 11

    private static void onBeltAnswers() {
        BaggageHall hall = planned(SET, 1, 2, 0, BELT, 3, 1, 1, MAKE, 0, 3, 0, LAY, 3, 0, 0, LOSE, 0, 0, 0);
        dueEnd("on a belt", hall, 1);
        due("it stays on the belt", 3, hall.onBelt(3, 1));
        due("a place without an item", NONE, hall.onBelt(3, 0));
        for (int i : new int[] {MIN, -1, 2, 8, MAX}) {
            due("no such place " + i, NONE, hall.onBelt(3, i));
        }
        due("no belt", NONE, hall.onBelt(0, 0));
        for (int belt : new int[] {MIN, -1, 4, MAX}) {
            due("onBelt " + belt, OUTSIDE, hall.onBelt(belt, 0));
        }
    }

    // promise 12

    private static void countedAnswers() {
        BaggageHall hall = planned(SET, 1, 2, 0, COUNTER, 2, 1, 0, COUNT, 2, 0, 0, COUNT, 2, 0, 0, COUNT, 2, 3, 0);
        dueEnd("counted", hall, 1);
        due("counted once", 1, hall.counted(2, 0));
        due("counted twice", 2, hall.counted(2, 1));
        for (int i : new int[] {MIN, -1, 2, 8, MAX}) {
            due("no such place " + i, 0, hall.counted(2, i));
        }
        due("no counter", 0, hall.counted(0, 0));
        for (int counter : new int[] {MIN, -1, 3, MAX}) {
            due("counted " + counter, OUTSIDE, hall.counted(counter, 0));
        }
    }

    private static void refusalsChangeNothing() {
        BaggageHall hall = planned(SET, 1, 4, 0, WEIGH, 0, 0, 0);
        hall.guard(1, 2, 1, 2);
        dueEnd("before", hall, 3);
        hall.act(25, 0, 0, 0);
        hall.act(SET, 6, 0, 0);
        hall.guard(0, 0, 0, 0);
        hall.run(8, 65);
        hall.told(5);
        hall.caught(0);
        due("register 0 stays", 3, hall.register(0));
        due("register 1 stays", 4, hall.register(1));
        due("told stays", 2, hall.told(3));
        due("caught stays", 1, hall.caught(1));
        due("guards stay", 1, hall.guard(0, 1, 0, 0));
        due("acts stay", 2, hall.clear());
    }
}
