/**
 * The edges of each call's own numbers, promise by promise: on the edge, one beyond it on each side, far beyond it;
 * and a refused call changes nothing.
 */
public final class CallBoundariesTest extends HallChecks {
    public static void main(String[] args) {
        // promise 1
        newIsAsTheBeginningOfAShiftGivenZero();
        newHasNoActsAndNoGuards();
        // promise 2
        actTakesOps0To24();
        actTakesNumbersAsTold();
        actDoesNotLookAtWhatIsNotNamed();
        actHasRoomFor40();
        actIsOutsideBeforeItHasNoRoom();
        // promise 3
        guardTakesLines0To40();
        guardTakesFromBelowTo();
        guardTakesFailures0To7();
        guardTakesLine0To40();
        guardHasRoomFor5();
        guardIsOutsideBeforeItHasNoRoom();
        // promise 4
        clearTellsHowManyActs();
        clearTakesActsAndGuardsAway();
        clearLeavesWhatTheLatestShiftLeft();
        // promise 5
        runTakesMany0To64();
        runTakesAnyX();
        // promise 6
        toldTakes0To4();
        toldOfAShiftThatDidNotFail();
        // promise 7
        caughtTakes1To7();
        // promise 8
        registerAnswers0Outside();
        // promise 9
        itemTakesPlaces0To7();
        itemTakesWhat0To3();
        itemIsNoneWhereNothingIs();
        itemTellsTheFirstPlace();
        // promise 10
        rowTakesWhat0To3();
        rowTakesWhichByWhat();
        rowIsNoneOfWhatIsNone();
        // promise 11
        onBeltTakesBelts0To3();
        onBeltIsNoneWhereThereIsNone();
        // promise 12
        countedTakesCounters0To2();
        countedIs0WhereThereIsNoSuchOne();
        CHECKS.end();
    }

    private static void newIsAsTheBeginningOfAShiftGivenZero() {
        BaggageHall begun = busy();
        due("a shift of no acts begins", 2, begun.run(0, 0));
        dueSameAnswers("new", begun, new BaggageHall());
        for (var answer : left(new BaggageHall()).entrySet()) {
            boolean isNumber = answer.getKey().startsWith("register") || answer.getKey().startsWith("counted");
            due("new " + answer.getKey(), isNumber ? 0 : NONE, answer.getValue());
        }
        for (var answer : report(new BaggageHall()).entrySet()) {
            due("new " + answer.getKey(), answer.getKey().equals("told(1)") ? NONE : 0, answer.getValue());
        }
    }

    private static void newHasNoActsAndNoGuards() {
        due("new: run", 0, new BaggageHall().run(0, 64));
        due("new: run of none", 0, new BaggageHall().run(0, 0));
        due("new: clear", 0, new BaggageHall().clear());
        due("new: act", 0, new BaggageHall().act(MAKE, 0, 0, 0));
        due("new: guard", 0, new BaggageHall().guard(0, 1, 0, 0));
        dueFailure("new: no guard takes it", planned(WEIGH, 0, 0, 0), 0, IS_NONE, 0);
    }

    private static void actTakesOps0To24() {
        for (int op = 0; op <= 24; op++) {
            due("act of op " + op, 0, new BaggageHall().act(op, 0, 0, 0));
        }
        for (int op : beyond(0, 24)) {
            dueRefused("act of op " + op, OUTSIDE, hall -> hall.act(op, 0, 0, 0));
        }
    }

    private static void actTakesNumbersAsTold() {
        for (int op = 0; op <= 24; op++) {
            for (int i = 0; i < ModelHall.NAMES[op].length(); i++) {
                if (ModelHall.NAMES[op].charAt(i) != 'V') {
                    actTakesNumber(op, i, ModelHall.greatest(ModelHall.NAMES[op].charAt(i)));
                }
            }
        }
    }

    private static void actTakesNumber(int op, int i, int greatest) {
        String what = "act of op " + op + ", number " + i + " = ";
        for (int good : new int[] {0, greatest}) {
            due(what + good, 0, actWith(new BaggageHall(), op, i, good));
        }
        for (int bad : beyond(0, greatest)) {
            dueRefused(what + bad, OUTSIDE, hall -> actWith(hall, op, i, bad));
        }
    }

    private static void actDoesNotLookAtWhatIsNotNamed() {
        for (int op = 0; op <= 24; op++) {
            String names = ModelHall.NAMES[op];
            for (int i = 0; i < 3; i++) {
                if (i >= names.length() || names.charAt(i) == 'V') {
                    for (int any : new int[] {MIN, -1, 0, 41, MAX}) {
                        due("act of op " + op + ", any number " + i, 0, actWith(new BaggageHall(), op, i, any));
                    }
                }
            }
        }
    }

    private static int actWith(BaggageHall hall, int op, int i, int number) {
        return hall.act(op, i == 0 ? number : 0, i == 1 ? number : 0, i == 2 ? number : 0);
    }

    private static BaggageHall withActs(int many) {
        BaggageHall hall = new BaggageHall();
        for (int i = 0; i < many; i++) {
            due("act " + i, i, hall.act(ADD, 1, 0, 0));
        }
        return hall;
    }

    private static void actHasRoomFor40() {
        due("the fortieth act", 39, withActs(39).act(SET, 1, 99, 0));
        dueRefusedIn("the act behind forty", ROOM, hall -> hall.act(SET, 1, 99, 0), () -> withActs(40));
        dueRefusedIn("the act behind forty", ROOM, hall -> hall.act(LOSE, 0, 0, 0), HallChecks::full);
    }

    private static void actIsOutsideBeforeItHasNoRoom() {
        dueRefusedIn("no op, no room", OUTSIDE, hall -> hall.act(25, 0, 0, 0), HallChecks::full);
        dueRefusedIn("no place, no room", OUTSIDE, hall -> hall.act(LOSE, 8, 0, 0), HallChecks::full);
        dueRefusedIn("no kind, no room", OUTSIDE, hall -> hall.act(MAKE, 0, 5, 0), HallChecks::full);
        dueRefusedIn("no register, no room", OUTSIDE, hall -> hall.act(MAKE, 0, 0, 6), HallChecks::full);
    }

    private static void guardTakesLines0To40() {
        due("guard of line 0", 0, new BaggageHall().guard(0, 1, 0, 0));
        due("guard of line 39", 0, new BaggageHall().guard(39, 40, 0, 0));
        due("guard of all lines", 0, new BaggageHall().guard(0, 40, 0, 0));
        for (int from : beyond(0, 39)) {
            dueRefused("guard from " + from, OUTSIDE, hall -> hall.guard(from, 40, 0, 0));
        }
        for (int to : beyond(1, 40)) {
            dueRefused("guard to " + to, OUTSIDE, hall -> hall.guard(0, to, 0, 0));
        }
        dueRefused("guard of line 40", OUTSIDE, hall -> hall.guard(40, 41, 0, 0));
        dueRefused("guard of line -1", OUTSIDE, hall -> hall.guard(-1, 0, 0, 0));
    }

    private static void guardTakesFromBelowTo() {
        for (int from : new int[] {0, 1, 20, 39}) {
            due("guard of one line", 0, new BaggageHall().guard(from, from + 1, 0, 0));
            dueRefused("guard of no line", OUTSIDE, hall -> hall.guard(from, from, 0, 0));
            dueRefused("guard backwards", OUTSIDE, hall -> hall.guard(from, from - 1, 0, 0));
        }
        dueRefused("guard of no line at the end", OUTSIDE, hall -> hall.guard(40, 40, 0, 0));
        dueRefused("guard of all lines backwards", OUTSIDE, hall -> hall.guard(40, 0, 0, 0));
    }

    private static void guardTakesFailures0To7() {
        for (int failure = 0; failure <= 7; failure++) {
            due("guard for " + failure, 0, new BaggageHall().guard(0, 1, failure, 0));
        }
        for (int failure : beyond(0, 7)) {
            dueRefused("guard for " + failure, OUTSIDE, hall -> hall.guard(0, 1, failure, 0));
        }
    }

    private static void guardTakesLine0To40() {
        for (int line : new int[] {0, 1, 39, 40}) {
            due("guard on at " + line, 0, new BaggageHall().guard(0, 1, 0, line));
        }
        for (int line : beyond(0, 40)) {
            dueRefused("guard on at " + line, OUTSIDE, hall -> hall.guard(0, 1, 0, line));
        }
    }

    /** A hall that fails at line 0 and has guards that do not take it. */
    private static BaggageHall withGuards(int many) {
        BaggageHall hall = planned(WEIGH, 1, 0, 0, SET, 1, 5, 0);
        for (int i = 0; i < many; i++) {
            due("guard " + i, i, hall.guard(1, 2, 0, 0));
        }
        return hall;
    }

    private static void guardHasRoomFor5() {
        BaggageHall five = withGuards(4);
        due("the fifth guard", 4, five.guard(0, 1, 0, 1));
        dueEnd("the fifth guard takes a failure", five, 0);
        dueRefusedIn("the sixth guard", ROOM, hall -> hall.guard(0, 1, 0, 1), () -> withGuards(5));
        dueRefusedIn("the sixth guard", ROOM, hall -> hall.guard(0, 40, 0, 40), HallChecks::full);
    }

    private static void guardIsOutsideBeforeItHasNoRoom() {
        dueRefusedIn("no from, no room", OUTSIDE, hall -> hall.guard(-1, 1, 0, 0), HallChecks::full);
        dueRefusedIn("no lines, no room", OUTSIDE, hall -> hall.guard(1, 1, 0, 0), HallChecks::full);
        dueRefusedIn("no to, no room", OUTSIDE, hall -> hall.guard(0, 41, 0, 0), HallChecks::full);
        dueRefusedIn("no failure, no room", OUTSIDE, hall -> hall.guard(0, 1, 8, 0), HallChecks::full);
        dueRefusedIn("no line, no room", OUTSIDE, hall -> hall.guard(0, 1, 0, 41), HallChecks::full);
    }

    private static void clearTellsHowManyActs() {
        for (int many : new int[] {0, 1, 39, 40}) {
            due("clear of " + many, many, withActs(many).clear());
        }
        BaggageHall refused = withActs(40);
        due("no room", ROOM, refused.act(ADD, 1, 0, 0));
        due("clear behind a refusal", 40, refused.clear());
        due("clear of what is cleared", 0, refused.clear());
        due("clear of guards alone", 0, guardsAlone().clear());
    }

    private static BaggageHall guardsAlone() {
        BaggageHall hall = new BaggageHall();
        for (int i = 0; i < 5; i++) {
            due("guard " + i, i, hall.guard(0, 40, 0, 40));
        }
        return hall;
    }

    private static void clearTakesActsAndGuardsAway() {
        BaggageHall hall = full();
        due("clear of a full hall", 40, hall.clear());
        due("no act is left", 0, hall.run(0, 0));
        for (int i = 0; i < 40; i++) {
            due("room for acts again", i, hall.act(WEIGH, 0, 0, 0));
        }
        dueFailure("no guard is left", hall, 0, IS_NONE, 0);
        for (int i = 0; i < 5; i++) {
            due("room for guards again", i, hall.guard(0, 40, 0, 40));
        }
        due("no more room for acts", ROOM, hall.act(WEIGH, 0, 0, 0));
        due("no more room for guards", ROOM, hall.guard(0, 40, 0, 40));
        BaggageHall alone = guardsAlone();
        due("clear of guards alone", 0, alone.clear());
        due("no guard is left, number", 0, alone.guard(0, 1, 0, 0));
    }

    private static void clearLeavesWhatTheLatestShiftLeft() {
        BaggageHall hall = busy();
        due("clear", 13, hall.clear());
        dueSameAnswers("behind clear", busy(), hall);
        BaggageHall filled = full();
        due("clear", 40, filled.clear());
        dueSameAnswers("behind clear of a full hall", full(), filled);
        BaggageHall unused = new BaggageHall();
        due("clear", 0, unused.clear());
        dueSameAnswers("behind clear of a new hall", new BaggageHall(), unused);
    }

    private static void runTakesMany0To64() {
        for (int many : new int[] {0, 1, 63, 64}) {
            BaggageHall endless = planned(GO, 0, 0, 0);
            due("run of " + many, 2, endless.run(0, many));
            due("acts done of " + many, many, endless.told(3));
        }
        for (int many : beyond(0, 64)) {
            dueRefused("run of " + many, OUTSIDE, hall -> hall.run(33, many));
        }
    }

    private static void runTakesAnyX() {
        for (int x : new int[] {MIN, -102, -101, -1, 0, 1, MAX}) {
            BaggageHall hall = new BaggageHall();
            due("run given " + x, 0, hall.run(x, 0));
            due("register 0 of " + x, x, hall.register(0));
            due("register 1 of " + x, 0, hall.register(1));
        }
    }

    private static void toldTakes0To4() {
        int[] want = {IS_NONE, 12, 41, 13, 1};
        BaggageHall hall = busy();
        for (int what = 0; what <= 4; what++) {
            due("told " + what, want[what], hall.told(what));
        }
        for (int what : beyond(0, 4)) {
            dueRefused("told " + what, OUTSIDE, other -> other.told(what));
        }
    }

    private static void toldOfAShiftThatDidNotFail() {
        BaggageHall hall = busy();
        due("on the way", 2, hall.run(0, 12));
        due("no failure on the way", 0, hall.told(0));
        due("no line on the way", NONE, hall.told(1));
        due("one taken on the way", 1, hall.told(4));
        due("clear", 13, hall.clear());
        due("nothing to do", 0, hall.run(0, 64));
        int[] want = {0, NONE, 0, 0, 0};
        for (int what = 0; what <= 4; what++) {
            due("told " + what + " of nothing", want[what], hall.told(what));
        }
    }

    private static void caughtTakes1To7() {
        BaggageHall hall = busy();
        for (int failure = 1; failure <= 7; failure++) {
            due("caught " + failure, failure == IS_ALARM ? 1 : 0, hall.caught(failure));
        }
        for (int failure : beyond(1, 7)) {
            dueRefused("caught " + failure, OUTSIDE, other -> other.caught(failure));
        }
    }

    private static void registerAnswers0Outside() {
        BaggageHall hall = planned(SET, 0, MIN, 0, SET, 1, -1, 0, SET, 2, 2, 0, SET, 3, OUTSIDE, 0, SET, 4, ROOM, 0,
                SET, 5, MAX, 0);
        dueEnd("registers", hall, 7);
        int[] want = {MIN, -1, 2, OUTSIDE, ROOM, MAX};
        for (int which = 0; which <= 5; which++) {
            due("register " + which, want[which], hall.register(which));
        }
        for (int which : beyond(0, 5)) {
            due("register " + which, 0, hall.register(which));
            dueRefused("register " + which, 0, other -> other.register(which));
        }
    }

    private static void itemTakesPlaces0To7() {
        BaggageHall hall = planned(MAKE, 0, CRATE, 0, MAKE, 7, DOG, 0);
        dueEnd("items", hall, 3);
        due("item at 0", CRATE, hall.item(0, 0));
        due("item at 7", DOG, hall.item(7, 0));
        for (int place : beyond(0, 7)) {
            for (int what = 0; what <= 3; what++) {
                int asked = what;
                dueRefused("item at " + place, OUTSIDE, other -> other.item(place, asked));
            }
        }
    }

    private static void itemTakesWhat0To3() {
        int[] want = {CAGE, 20, 1, 0};
        BaggageHall hall = busy();
        for (int what = 0; what <= 3; what++) {
            due("item's " + what, want[what], hall.item(5, what));
        }
        for (int what : beyond(0, 3)) {
            dueRefused("item's " + what, OUTSIDE, other -> other.item(5, what));
            dueRefused("what " + what + " where nothing is", OUTSIDE, other -> other.item(7, what));
            dueRefused("what " + what + " at no place", OUTSIDE, other -> other.item(8, what));
        }
    }

    private static void itemIsNoneWhereNothingIs() {
        BaggageHall hall = planned(MAKE, 1, BAG, 0, MAKE, 2, BAG, 0, LOSE, 2, 0, 0);
        dueEnd("items", hall, 3);
        for (int place : new int[] {0, 2, 3, 7}) {
            for (int what = 0; what <= 3; what++) {
                due("nothing at " + place, NONE, hall.item(place, what));
            }
        }
    }

    private static void itemTellsTheFirstPlace() {
        BaggageHall all = planned(MAKE, 7, BAG, 0, SAME, 3, 7, 0, SAME, 0, 3, 0);
        dueEnd("at three places", all, 1);
        due("first of 7", 0, all.item(7, 3));
        due("first of 3", 0, all.item(3, 3));
        due("first of 0", 0, all.item(0, 3));
        BaggageHall lost = planned(MAKE, 7, BAG, 0, SAME, 3, 7, 0, SAME, 0, 3, 0, LOSE, 0, 0, 0);
        dueEnd("lost at the first", lost, 1);
        due("first of 7, lost at 0", 3, lost.item(7, 3));
        BaggageHall twins = planned(MAKE, 0, BAG, 0, MAKE, 7, BAG, 0);
        dueEnd("as good as the same", twins, 1);
        due("another item at 7", 7, twins.item(7, 3));
    }

    private static void rowTakesWhat0To3() {
        int[] want = {3, 3, 3, BAG};
        int[] which = {3, 2, 1, 3};
        BaggageHall hall = busy();
        for (int what = 0; what <= 3; what++) {
            due("row's " + what, want[what], hall.row(which[what], what));
        }
        for (int what : beyond(0, 3)) {
            for (int good : new int[] {0, 1, 3}) {
                dueRefused("row " + good + "'s " + what, OUTSIDE, other -> other.row(good, what));
            }
            dueRefused("no row's " + what, OUTSIDE, other -> other.row(4, what));
        }
    }

    private static void rowTakesWhichByWhat() {
        int[] greatest = {3, 2, 1, 3};
        for (int what = 0; what <= 3; what++) {
            int asked = what;
            due("row 0 of " + what, NONE, new BaggageHall().row(0, what));
            due("last row of " + what, NONE, new BaggageHall().row(greatest[what], what));
            for (int which : beyond(0, greatest[what])) {
                dueRefused("row " + which + " of " + what, OUTSIDE, other -> other.row(which, asked));
            }
        }
    }

    private static void rowIsNoneOfWhatIsNone() {
        BaggageHall hall = planned(BELT, 1, TROLLEY, 0, COUNTER, 1, 0, 0, GRID, 1, 0, 5, BELT, 2, DOG, 0, DROP, 2, 0, 0);
        dueEnd("rows without places", hall, 0);
        due("a belt without places", 0, hall.row(1, 0));
        due("a counter without places", 0, hall.row(1, 1));
        due("a grid without rows", 0, hall.row(1, 2));
        due("a belt for all", TROLLEY, hall.row(1, 3));
        for (int which : new int[] {0, 2, 3}) {
            due("no belt " + which, NONE, hall.row(which, 0));
            due("no belt's kind " + which, NONE, hall.row(which, 3));
        }
        due("no counter 0", NONE, hall.row(0, 1));
        due("no counter 2", NONE, hall.row(2, 1));
        due("no grid 0", NONE, hall.row(0, 2));
    }

    private static void onBeltTakesBelts0To3() {
        BaggageHall hall = planned(MAKE, 0, DOG, 0, BELT, 0, TROLLEY, 0, BELT, 3, DOG, 0, LAY, 0, 1, 0, LAY, 3, 1, 0);
        dueEnd("belts", hall, 1);
        due("on belt 0", DOG, hall.onBelt(0, 0));
        due("on belt 3", DOG, hall.onBelt(3, 0));
        for (int belt : beyond(0, 3)) {
            for (int i : new int[] {-1, 0, 8}) {
                dueRefused("on belt " + belt, OUTSIDE, other -> other.onBelt(belt, i));
            }
        }
    }

    private static void onBeltIsNoneWhereThereIsNone() {
        for (int size = 0; size <= 8; size++) {
            BaggageHall hall = planned(BELT, 1, BAG, 0);
            dueEnd("belt of " + size, hall, size);
            for (int i : new int[] {MIN, -1, 0, size - 1, size, 7, 8, MAX}) {
                due("nothing at " + i + " of " + size, NONE, hall.onBelt(1, i));
                due("no belt at " + i, NONE, hall.onBelt(0, i));
            }
        }
        // the places behind a shorter belt still had items in an earlier one
        BaggageHall shorter = planned(SET, 1, 8, 0, BELT, 0, TROLLEY, 1, MAKE, 0, BAG, 1, SET, 2, 7, 0, LAY, 0, 2, 0,
                SET, 2, 1, 0, LAY, 0, 2, 0, BELT, 0, TROLLEY, 2, SET, 2, 0, 0, LAY, 0, 2, 0);
        dueEnd("a shorter belt", shorter, 0);
        due("its only place", BAG, shorter.onBelt(0, 0));
        for (int i = 1; i < 9; i++) {
            due("behind a shorter belt, " + i, NONE, shorter.onBelt(0, i));
        }
    }

    private static void countedTakesCounters0To2() {
        BaggageHall hall = planned(COUNTER, 0, 0, 0, COUNTER, 2, 0, 0, COUNT, 0, 1, 0, COUNT, 2, 1, 0);
        dueEnd("counters", hall, 1);
        due("counted on 0", 1, hall.counted(0, 0));
        due("counted on 2", 1, hall.counted(2, 0));
        for (int counter : beyond(0, 2)) {
            for (int i : new int[] {-1, 0, 8}) {
                dueRefused("counted on " + counter, OUTSIDE, other -> other.counted(counter, i));
            }
        }
    }

    private static void countedIs0WhereThereIsNoSuchOne() {
        for (int size = 1; size <= 8; size++) {
            BaggageHall hall = planned(COUNTER, 1, 0, 0, SET, 1, size - 1, 0, COUNT, 1, 1, 0, COUNT, 1, 2, 0);
            dueEnd("counter of " + size, hall, size);
            due("last of " + size, size == 1 ? 2 : 1, hall.counted(1, size - 1));
            due("first of " + size, size == 1 ? 2 : 1, hall.counted(1, 0));
            for (int i : new int[] {MIN, -1, size, 8, MAX}) {
                due("no such place " + i + " of " + size, 0, hall.counted(1, i));
            }
            due("no counter", 0, hall.counted(0, 0));
            due("no counter, no place", 0, hall.counted(2, -1));
        }
        // the places behind a shorter counter had counts in an earlier one
        BaggageHall shorter = planned(COUNTER, 0, 0, 0, SET, 1, 7, 0, COUNT, 0, 1, 0, SET, 1, 1, 0, COUNT, 0, 1, 0,
                COUNTER, 0, 1, 0, COUNT, 0, 2, 0);
        dueEnd("a shorter counter", shorter, 8);
        due("its only place", 1, shorter.counted(0, 0));
        for (int i = 1; i < 9; i++) {
            due("behind a shorter counter, " + i, 0, shorter.counted(0, i));
        }
    }
}
