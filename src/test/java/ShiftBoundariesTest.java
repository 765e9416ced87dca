/** The edges of a shift: its lines, how many acts it does, where it goes on, what guards take, an object's 512 calls. */
public final class ShiftBoundariesTest extends HallChecks {
    private static final int MOST_CALLS = 512;

    public static void main(String[] args) {
        actsAreDoneFromLine0();
        behindTheLastActAShiftEnds();
        manyIsTheMostThatIsDone();
        endingNeedsNoActMore();
        failingOnTheLastActAllowed();
        guardsOnTheLastActAllowed();
        aShiftBeginsAnew();
        goTakesLines0To40();
        goOnAtALineWithoutAnAct();
        ifGoesBelow1();
        ifTakesLines0To40();
        guardsHaveLinesFromToToLessOne();
        guardsAreForOneFailureOrAny();
        theFirstGuardOfSeveral();
        guardsGoOnAtTheirLine();
        withoutAGuardAShiftFails();
        onlyFailuresGoToGuards();
        theAlarmRaisedLast();
        answersUpToTheLastCall();
        CHECKS.end();
    }

    /** Each act adds to register 1 what register 0 has. */
    private static BaggageHall adding(int many) {
        BaggageHall hall = new BaggageHall();
        for (int i = 0; i < many; i++) {
            due("line", i, hall.act(ADD, 1, 0, 0));
        }
        return hall;
    }

    private static void actsAreDoneFromLine0() {
        BaggageHall hall = planned(SET, 1, 5, 0, ADD, 1, 0, 0, SET, 0, 0, 0);
        due("only line 0", 2, hall.run(3, 1));
        due("line 0 is done", 5, hall.register(1));
        due("lines 0 and 1", 2, hall.run(3, 2));
        due("line 1 is done behind it", 8, hall.register(1));
        due("line 2 is not", 3, hall.register(0));
        due("all lines", 0, hall.run(3, 3));
        due("line 2 is done last", 0, hall.register(0));
        due("and not before line 1", 8, hall.register(1));
    }

    private static void behindTheLastActAShiftEnds() {
        for (int acts : new int[] {0, 1, 2, 39, 40}) {
            BaggageHall hall = adding(acts);
            dueEnd(acts + " acts", hall, 2);
            due("all of " + acts + " are done", 2 * acts, hall.register(1));
            due("done of " + acts, acts, hall.told(3));
        }
    }

    private static void manyIsTheMostThatIsDone() {
        for (int acts : new int[] {1, 2, 39, 40}) {
            for (int many : new int[] {0, acts - 1, acts, acts + 1, 64}) {
                BaggageHall hall = adding(acts);
                due(many + " of " + acts, many < acts ? 2 : 0, hall.run(1, many));
                due("done, " + many + " of " + acts, Math.min(many, acts), hall.told(3));
                due("added, " + many + " of " + acts, Math.min(many, acts), hall.register(1));
                due("no failure, " + many + " of " + acts, 0, hall.told(0));
                due("no line, " + many + " of " + acts, NONE, hall.told(1));
            }
        }
    }

    private static void endingNeedsNoActMore() {
        due("go to the end as the last act allowed", 0, planned(GO, 40, 0, 0).run(0, 1));
        due("go to a line behind the acts", 0, planned(GO, 1, 0, 0).run(0, 1));
        due("go to an act needs one more", 2, planned(GO, 0, 0, 0).run(0, 1));
        due("if to the end as the last act allowed", 0, planned(IF, 0, 40, 0, GO, 0, 0, 0).run(0, 1));
        due("if not to the end needs one more", 2, planned(IF, 0, 40, 0, GO, 0, 0, 0).run(1, 1));
        due("no acts, none allowed", 0, new BaggageHall().run(0, 0));
        due("an act, none allowed", 2, planned(GO, 40, 0, 0).run(0, 0));
        BaggageHall just = planned(SET, 1, -1, 0, ADD, 0, 1, 0, IF, 0, 40, 0, GO, 1, 0, 0);
        due("just 63 acts of a loop", 0, just.run(21, 64));
        due("63 acts", 63, just.told(3));
        due("one less than it needs", 2, just.run(21, 62));
        due("one round more than there is room for", 2, just.run(22, 64));
        BaggageHall exact = planned(SET, 1, -1, 0, ADD, 2, 2, 0, ADD, 0, 1, 0, IF, 0, 40, 0, GO, 2, 0, 0);
        due("just 64 acts of a loop", 0, exact.run(21, 64));
        due("64 acts", 64, exact.told(3));
        due("one less than 64", 2, exact.run(21, 63));
    }

    private static void failingOnTheLastActAllowed() {
        BaggageHall hall = planned(SET, 1, 5, 0, WEIGH, 1, 7, 0, SET, 1, 6, 0);
        due("before the failing act", 2, hall.run(0, 1));
        due("no failure before it", 0, hall.told(0));
        due("no line before it", NONE, hall.told(1));
        due("the failing act is the last one allowed", 1, hall.run(0, 2));
        due("its failure", IS_NONE, hall.told(0));
        due("its line", 1, hall.told(1));
        due("it is done", 2, hall.told(3));
        due("more is allowed", 1, hall.run(0, 3));
        due("more is not done", 2, hall.told(3));
        due("nothing behind it is done", 5, hall.register(1));
        BaggageHall last = adding(39);
        due("line 39", 39, last.act(RAISE, 0, 0, 0));
        dueFailure("at the last line", last, 0, IS_NONE, 39);
        BaggageHall late = planned(GO, 1, 0, 0, IF, 0, 0, 0, WEIGH, 1, 7, 0);
        due("a failing act within what is allowed", 1, late.run(1, 3));
        due("a failing act behind what is allowed", 2, late.run(1, 2));
        due("its line is not told", NONE, late.told(1));
    }

    private static void guardsOnTheLastActAllowed() {
        BaggageHall hall = planned(WEIGH, 1, 7, 0, SET, 1, 6, 0);
        due("guard", 0, hall.guard(0, 1, 0, 1));
        due("the guard's line has one more act", 2, hall.run(0, 1));
        due("the failure was taken", 1, hall.told(4));
        due("it is not told as failed", 0, hall.told(0));
        due("the act there is not done", 0, hall.register(1));
        due("just enough", 0, hall.run(0, 2));
        BaggageHall end = planned(WEIGH, 1, 7, 0, SET, 1, 6, 0);
        due("guard", 0, end.guard(0, 1, 0, 40));
        due("the guard's line has no act", 0, end.run(0, 1));
        due("the failure was taken there", 1, end.told(4));
        due("none is allowed", 2, end.run(0, 0));
        due("none was taken", 0, end.told(4));
    }

    private static void aShiftBeginsAnew() {
        BaggageHall hall = busy();
        due("clear", 13, hall.clear());
        for (int x : new int[] {MIN, 0, MAX}) {
            due("an empty shift", 0, hall.run(x, 64));
            BaggageHall fresh = new BaggageHall();
            due("an empty first shift", 0, fresh.run(x, 64));
            dueSameAnswers("begun anew with " + x, fresh, hall);
        }
        BaggageHall again = busy();
        due("the same shift again", 1, again.run(20, 64));
        dueSameAnswers("the same shift again", busy(), again);
    }

    private static void goTakesLines0To40() {
        for (int line : new int[] {0, 1, 39, 40}) {
            due("go " + line, 0, new BaggageHall().act(GO, line, 0, 0));
        }
        for (int line : beyond(0, 40)) {
            dueRefused("go " + line, OUTSIDE, hall -> hall.act(GO, line, 0, 0));
        }
        BaggageHall back = planned(ADD, 1, 0, 0, GO, 0, 0, 0);
        due("back to line 0", 2, back.run(1, 3));
        due("line 0 twice", 2, back.register(1));
        BaggageHall far = new BaggageHall();
        due("line", 0, far.act(GO, 39, 0, 0));
        for (int i = 1; i < 39; i++) {
            due("line", i, far.act(SET, 1, i, 0));
        }
        due("line", 39, far.act(SET, 2, 39, 0));
        dueEnd("on at line 39", far, 0);
        due("nothing between", 0, far.register(1));
        due("line 39 is done", 39, far.register(2));
    }

    private static void goOnAtALineWithoutAnAct() {
        for (int line : new int[] {2, 3, 39, 40}) {
            BaggageHall go = planned(GO, line, 0, 0, SET, 1, 1, 0);
            dueEnd("go " + line + " of two acts", go, 0);
            due("go " + line + ", acts done", 1, go.told(3));
            BaggageHall when = planned(IF, 0, line, 0, SET, 1, 1, 0);
            dueEnd("if, " + line + " of two acts", when, 0);
            due("if, " + line + ", acts done", 1, when.told(3));
            BaggageHall guarded = planned(WEIGH, 1, 0, 0, SET, 1, 1, 0);
            due("guard", 0, guarded.guard(0, 1, 0, line));
            dueEnd("guard, " + line + " of two acts", guarded, 0);
            due("guard, " + line + ", acts done", 1, guarded.told(3));
        }
        BaggageHall last = planned(GO, 1, 0, 0, SET, 1, 1, 0);
        dueEnd("go to the last act", last, 0);
        due("it is done", 1, last.register(1));
        BaggageHall full = new BaggageHall();
        due("line", 0, full.act(GO, 40, 0, 0));
        for (int i = 1; i < 40; i++) {
            due("line", i, full.act(SET, 1, i, 0));
        }
        dueEnd("go 40 of forty acts", full, 0);
        due("nothing else is done", 1, full.told(3));
    }

    private static void ifGoesBelow1() {
        int[][] cases = {{MIN, 1}, {-1, 1}, {0, 1}, {1, 0}, {2, 0}, {MAX, 0}};
        for (int[] c : cases) {
            for (int register = 0; register < 6; register++) {
                BaggageHall hall = planned(SET, 0, 1, 0, SET, register, c[0], 0, IF, register, 4, 0, SET, 1, 77, 0);
                dueEnd("if " + register + " is " + c[0], hall, 1);
                due("if " + register + " is " + c[0] + ", acts done", 4 - c[1], hall.told(3));
                due("if " + register + " leaves it", register == 1 && c[1] == 0 ? 77 : c[0], hall.register(register));
            }
        }
    }

    private static void ifTakesLines0To40() {
        for (int line : new int[] {0, 1, 39, 40}) {
            due("if to " + line, 0, new BaggageHall().act(IF, 5, line, 0));
        }
        for (int line : beyond(0, 40)) {
            dueRefused("if to " + line, OUTSIDE, hall -> hall.act(IF, 5, line, 0));
        }
        BaggageHall back = planned(SET, 1, 1, 0, ADD, 0, 1, 0, IF, 0, 0, 0);
        dueEnd("back to line 0 until 1", back, -3);
        due("until 1", 1, back.register(0));
        due("acts of it", 12, back.told(3));
    }

    /** Forty acts that all do nothing but the one at a line, which fails by NONE. */
    private static BaggageHall failingAt(int line) {
        BaggageHall hall = new BaggageHall();
        for (int i = 0; i < 40; i++) {
            due("line", i, i == line ? hall.act(WEIGH, 1, 7, 0) : hall.act(ADD, 2, 2, 0));
        }
        return hall;
    }

    private static void guardsHaveLinesFromToToLessOne() {
        int[][] guards = {{0, 1}, {0, 2}, {0, 39}, {0, 40}, {1, 2}, {1, 39}, {5, 9}, {38, 39}, {38, 40}, {39, 40}};
        for (int[] guard : guards) {
            for (int line : new int[] {0, 1, guard[0] - 1, guard[0], guard[1] - 1, guard[1], 38, 39}) {
                if (line < 0 || line > 39) {
                    continue;
                }
                BaggageHall hall = failingAt(line);
                due("guard", 0, hall.guard(guard[0], guard[1], IS_NONE, 40));
                String what = "line " + line + ", guard from " + guard[0] + " to " + guard[1];
                if (guard[0] <= line && line < guard[1]) {
                    dueEnd(what, hall, 0);
                    due(what + ", taken", 1, hall.caught(IS_NONE));
                } else {
                    dueFailure(what, hall, 0, IS_NONE, line);
                    due(what + ", not taken", 0, hall.caught(IS_NONE));
                }
            }
        }
    }

    /** For each failure from 1 on an act that has it at line 6, behind the same six acts. */
    private static final int[][] FAILING = {{WEIGH, 5, 7, 0}, {BELT, 0, BAG, 2}, {LAY, 0, 1, 0}, {AS, 0, DOG, 0},
        {LAY, 0, 4, 0}, {BELT, 0, BAG, 1}, {RAISE, 0, 0, 0}};

    private static BaggageHall failingBy(int failure) {
        int[] act = FAILING[failure - 1];
        return planned(SET, 1, 9, 0, SET, 2, -1, 0, SET, 3, 1, 0, MAKE, 0, TROLLEY, 0, BELT, 0, BAG, 3,
                ALARM, 0, 1, 0, act[0], act[1], act[2], act[3], SET, 5, 1, 0);
    }

    private static void guardsAreForOneFailureOrAny() {
        for (int failure = 1; failure <= 7; failure++) {
            for (int taken = 0; taken <= 7; taken++) {
                BaggageHall hall = failingBy(failure);
                due("guard", 0, hall.guard(6, 7, taken, 7));
                String what = "failure " + failure + ", guard for " + taken;
                if (taken == 0 || taken == failure) {
                    dueEnd(what, hall, 0);
                    due(what + ", gone on", 1, hall.register(5));
                } else {
                    dueFailure(what, hall, 0, failure, 6);
                    due(what + ", not gone on", 0, hall.register(5));
                }
                for (int other = 1; other <= 7; other++) {
                    boolean counts = other == failure && (taken == 0 || taken == failure);
                    due(what + ", caught " + other, counts ? 1 : 0, hall.caught(other));
                }
                due(what + ", all", taken == 0 || taken == failure ? 1 : 0, hall.told(4));
            }
        }
    }

    private static void theFirstGuardOfSeveral() {
        for (int first = 0; first < 5; first++) {
            BaggageHall hall = planned(WEIGH, 1, 7, 0, SET, 2, 1, 0, GO, 40, 0, 0, SET, 2, 2, 0);
            for (int i = 0; i < 5; i++) {
                boolean hasLine = i >= first || i % 2 == 0;
                boolean hasFailure = i >= first || i % 2 == 1;
                due("guard", i, hall.guard(hasLine ? 0 : 1, 2, hasFailure ? i % 2 : IS_ALARM, i == first ? 3 : 1));
            }
            dueEnd("the first is guard " + first, hall, 0);
            due("on at the line of guard " + first, 2, hall.register(2));
            due("taken once", 1, hall.told(4));
        }
    }

    private static void guardsGoOnAtTheirLine() {
        BaggageHall itself = planned(WEIGH, 1, 7, 0);
        due("guard", 0, itself.guard(0, 1, 0, 0));
        due("on at its own line", 2, itself.run(0, 64));
        due("taken 64 times", 64, itself.caught(IS_NONE));
        due("64 in all", 64, itself.told(4));
        due("64 acts", 64, itself.told(3));
        BaggageHall back = planned(IF, 0, 40, 0, SET, 0, 0, 0, WEIGH, 1, 7, 0);
        due("guard", 0, back.guard(2, 3, IS_NONE, 0));
        dueEnd("back to line 0", back, 1);
        due("acts then", 4, back.told(3));
        BaggageHall inside = planned(WEIGH, 1, 7, 0, LONG, 1, 0, 0, SUM, 1, 0, 0, SET, 5, 5, 0);
        due("guard", 0, inside.guard(0, 2, 0, 1));
        due("on at a line that fails, too", 2, inside.run(0, 64));
        due("guarded again", 64, inside.told(4));
        due("guard", 1, inside.guard(2, 3, 0, 3));
        due("the first guard has both lines still", 2, inside.run(0, 64));
        BaggageHall last = failingAt(0);
        due("guard", 0, last.guard(0, 40, 0, 39));
        dueEnd("on at line 39", last, 0);
        due("two acts", 2, last.told(3));
    }

    private static void withoutAGuardAShiftFails() {
        for (int failure = 1; failure <= 7; failure++) {
            BaggageHall hall = failingBy(failure);
            dueFailure("no guard, failure " + failure, hall, 0, failure, 6);
            due("acts done", 7, hall.told(3));
            due("none taken", 0, hall.told(4));
            due("the act behind is not done", 0, hall.register(5));
            due("guard", 0, hall.guard(0, 6, 0, 40));
            due("guard", 1, hall.guard(7, 40, 0, 40));
            dueFailure("guards of other lines, failure " + failure, hall, 0, failure, 6);
        }
    }

    private static void onlyFailuresGoToGuards() {
        BaggageHall hall = planned(SET, 1, 1, 0, HUSH, 0, 0, 0, LOSE, 0, 0, 0, DROP, 0, 0, 0, AS, 0, DOG, 0);
        due("guard", 0, hall.guard(0, 40, 0, 0));
        dueEnd("nothing to take", hall, 0);
        due("nothing was taken", 0, hall.told(4));
        due("all done", 5, hall.told(3));
        dueEnd("an empty shift with guards", emptyWithGuard(), 0);
    }

    private static BaggageHall emptyWithGuard() {
        BaggageHall hall = new BaggageHall();
        due("guard", 0, hall.guard(0, 40, 0, 0));
        return hall;
    }

    private static void theAlarmRaisedLast() {
        BaggageHall hall = planned(ALARM, 0, 0, 0, RAISE, 0, 0, 0, ADD, 0, 0, 0, ALARM, 0, 0, 0, HUSH, 1, 0, 0,
                RAISE, 1, 0, 0);
        due("no alarm raised", 2, hall.run(5, 1));
        due("no number", 0, hall.told(2));
        dueFailure("raised without a guard", hall, 5, IS_ALARM, 1);
        due("its number", 5, hall.told(2));
        due("guard", 0, hall.guard(1, 2, IS_ALARM, 2));
        dueFailure("raised and taken, then another failure", hall, 5, IS_NONE, 5);
        due("the number is of the one raised", 5, hall.told(2));
        due("a shift without it", 2, hall.run(5, 0));
        due("no number any more", 0, hall.told(2));
    }

    private static void answersUpToTheLastCall() {
        BaggageHall runs = planned(ADD, 1, 0, 0, MAKE, 0, DOG, 0, STAMP, 2, 0, 0, GO, 0, 0, 0);
        for (int call = 5; call <= MOST_CALLS; call++) {
            due("call " + call + ", run", 2, runs.run(call, 64));
        }
        for (int last = 0; last < 11; last++) {
            BaggageHall hall = busy();
            for (int call = 17; call < MOST_CALLS; call++) {
                due("call " + call, 41, hall.told(2));
            }
            dueLastCall(last, hall);
        }
        BaggageHall acts = new BaggageHall();
        for (int call = 1; call < MOST_CALLS; call++) {
            due("call " + call + ", act", Math.min(call, 41) == 41 ? ROOM : call - 1, acts.act(GO, 0, 0, 0));
        }
        due("clear as the last call", 40, acts.clear());
        BaggageHall guards = new BaggageHall();
        for (int call = 1; call <= MOST_CALLS; call++) {
            due("call " + call + ", guard", call > 5 ? ROOM : call - 1, guards.guard(0, 1, 0, 0));
        }
    }

    private static void dueLastCall(int which, BaggageHall hall) {
        switch (which) {
            case 0: due("last call, act", 13, hall.act(GO, 0, 0, 0)); break;
            case 1: due("last call, guard", 2, hall.guard(0, 1, 0, 0)); break;
            case 2: due("last call, clear", 13, hall.clear()); break;
            case 3: due("last call, run", 1, hall.run(20, 64)); break;
            case 4: due("last call, told", 13, hall.told(3)); break;
            case 5: due("last call, caught", 1, hall.caught(IS_ALARM)); break;
            case 6: due("last call, register", 12, hall.register(3)); break;
            case 7: due("last call, item", 20, hall.item(5, 1)); break;
            case 8: due("last call, row", 3, hall.row(3, 0)); break;
            case 9: due("last call, onBelt", CAGE, hall.onBelt(3, 0)); break;
            default: due("last call, counted", 1, hall.counted(2, 0)); break;
        }
    }
}
