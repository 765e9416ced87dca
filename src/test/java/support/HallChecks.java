import java.util.LinkedHashMap;
import java.util.Map;
import java.util.function.Supplier;
import java.util.function.ToIntFunction;

/** What tests of the hall share: the document's numbers by their names, halls at work, and ways to compare halls. */
abstract class HallChecks {
    static final int NONE = -1, OUTSIDE = -101, ROOM = -102;
    static final int MIN = Integer.MIN_VALUE, MAX = Integer.MAX_VALUE;

    static final int MAKE = 0, LOSE = 1, SAME = 2, BELT = 3, LAY = 4, PICK = 5, LONG = 6, DROP = 7, WEIGH = 8,
            LOAD = 9, STAMP = 10, FEED = 11, AS = 12, COUNTER = 13, COUNT = 14, HOW = 15, GRID = 16, SUM = 17,
            ALARM = 18, HUSH = 19, RAISE = 20, SET = 21, ADD = 22, GO = 23, IF = 24;

    static final int TROLLEY = 0, BAG = 1, CRATE = 2, CAGE = 3, DOG = 4;

    static final int IS_NONE = 1, IS_SIZE = 2, IS_INDEX = 3, IS_KIND = 4, IS_STORE = 5, IS_LARGE = 6, IS_ALARM = 7;

    /** Of each wanted kind: which kinds of items are of it. */
    static final String[] TAKEN = {"11111", "01110", "00110", "00010", "00001"};

    static final Checks CHECKS = new Checks();

    static void due(String what, int want, int got) {
        CHECKS.due(what, want, got);
    }

    /** A hall with acts of four numbers each. */
    static BaggageHall planned(int... numbers) {
        BaggageHall hall = new BaggageHall();
        for (int i = 0; i + 3 < numbers.length; i += 4) {
            due("planned act " + i / 4, i / 4, hall.act(numbers[i], numbers[i + 1], numbers[i + 2], numbers[i + 3]));
        }
        return hall;
    }

    static void dueEnd(String what, BaggageHall hall, int x) {
        due(what + " ends", 0, hall.run(x, 64));
        due(what + " ends without a failure", 0, hall.told(0));
        due(what + " ends without a line", NONE, hall.told(1));
    }

    static void dueFailure(String what, BaggageHall hall, int x, int failure, int line) {
        due(what + " fails", 1, hall.run(x, 64));
        due(what + " failure", failure, hall.told(0));
        due(what + " line", line, hall.told(1));
    }

    /** One beyond the edge on each side, and far beyond it. */
    static int[] beyond(int least, int greatest) {
        return new int[] {MIN, least - 1, greatest + 1, MAX};
    }

    /** All that can be asked about the latest shift but what it left in the hall. */
    static Map<String, Integer> report(BaggageHall hall) {
        Map<String, Integer> all = new LinkedHashMap<>();
        for (int i = 0; i < 5; i++) {
            all.put("told(" + i + ")", hall.told(i));
        }
        for (int i = 1; i < 8; i++) {
            all.put("caught(" + i + ")", hall.caught(i));
        }
        return all;
    }

    /** All that can be asked about what the latest shift left in the hall. */
    static Map<String, Integer> left(BaggageHall hall) {
        Map<String, Integer> all = new LinkedHashMap<>();
        for (int i = 0; i < 6; i++) {
            all.put("register(" + i + ")", hall.register(i));
        }
        for (int i = 0; i < 8; i++) {
            for (int j = 0; j < 4; j++) {
                all.put("item(" + i + ", " + j + ")", hall.item(i, j));
                all.put("onBelt(" + j + ", " + i + ")", hall.onBelt(j, i));
            }
            for (int j = 0; j < 3; j++) {
                all.put("counted(" + j + ", " + i + ")", hall.counted(j, i));
            }
        }
        int[] rows = {4, 3, 2, 4};
        for (int what = 0; what < 4; what++) {
            for (int which = 0; which < rows[what]; which++) {
                all.put("row(" + which + ", " + what + ")", hall.row(which, what));
            }
        }
        return all;
    }

    static void dueSame(String what, Map<String, Integer> want, Map<String, Integer> got) {
        for (Map.Entry<String, Integer> entry : want.entrySet()) {
            due(what + ": " + entry.getKey(), entry.getValue(), got.get(entry.getKey()));
        }
    }

    /** Compares all answers about the latest shift: 119 calls of each hall. */
    static void dueSameAnswers(String what, BaggageHall want, BaggageHall got) {
        dueSame(what, report(want), report(got));
        dueSame(what, left(want), left(got));
    }

    /** A few acts and guards, and a shift that failed; every thing is there, every answer is another one. */
    static BaggageHall busy() {
        BaggageHall hall = planned(SET, 1, 3, 0, MAKE, 0, CAGE, 0, SAME, 5, 0, 0, STAMP, 2, 5, 0, BELT, 3, BAG, 1,
                LAY, 3, 4, 5, COUNTER, 2, 1, 0, COUNT, 2, 5, 0, GRID, 1, 1, 4, ALARM, 2, 2, 0, RAISE, 2, 0, 0,
                SUM, 3, 1, 0, WEIGH, 4, 7, 0);
        due("busy: guard", 0, hall.guard(10, 11, IS_ALARM, 11));
        due("busy: guard", 1, hall.guard(0, 12, 0, 40));
        due("busy: run", 1, hall.run(20, 64));
        return hall;
    }

    /** As many acts and guards as there can be, and a shift that had one more act to do. */
    static BaggageHall full() {
        BaggageHall hall = new BaggageHall();
        for (int i = 0; i < 39; i++) {
            due("full: act", i, i % 3 == 2 ? hall.act(WEIGH, 1, 7, 0) : hall.act(MAKE, i % 7, i % 5, 0));
        }
        due("full: act", 39, hall.act(GO, 0, 0, 0));
        for (int i = 0; i < 5; i++) {
            due("full: guard", i, hall.guard(i, 40 - i, i % 2, 39));
        }
        due("full: run", 2, hall.run(6, 63));
        return hall;
    }

    /** A refused call answers so in a new, a busy and a full hall, and changes nothing in any of them. */
    static void dueRefused(String what, int answer, ToIntFunction<BaggageHall> call) {
        dueRefusedIn("new: " + what, answer, call, BaggageHall::new);
        dueRefusedIn("busy: " + what, answer, call, HallChecks::busy);
        dueRefusedIn("full: " + what, answer, call, HallChecks::full);
    }

    /** What can't be asked, the acts and the guards, is seen in the next shift beside a hall without the call. */
    static void dueRefusedIn(String what, int answer, ToIntFunction<BaggageHall> call, Supplier<BaggageHall> maker) {
        BaggageHall hall = maker.get();
        BaggageHall other = maker.get();
        due(what, answer, call.applyAsInt(hall));
        dueSameAnswers(what + ", then", other, hall);
        due(what + ", then run", other.run(9, 64), hall.run(9, 64));
        dueSameAnswers(what + ", then run, then", other, hall);
        due(what + ", then act", other.act(SET, 0, 0, 0), hall.act(SET, 0, 0, 0));
        due(what + ", then guard", other.guard(0, 1, 0, 0), hall.guard(0, 1, 0, 0));
        due(what + ", then clear", other.clear(), hall.clear());
    }
}
