/** Many made-up runs of calls, each answer against that of the model. */
public final class ModelTest {
    private static final int MOST_CALLS = 512;
    private static final Checks CHECKS = new Checks();

    // always the same numbers, so that a fault can be found again
    private static long seed = 20261116L;

    private final int run;
    private final BaggageHall hall = new BaggageHall();
    private final ModelHall model = new ModelHall();
    private int calls = 0;

    private ModelTest(int run) {
        this.run = run;
    }

    public static void main(String[] args) {
        for (int run = 1; run <= 8000; run++) {
            new ModelTest(run).play();
        }
        CHECKS.end();
    }

    private void play() {
        int rounds = 1 + pick(3);
        for (int round = 0; round < rounds; round++) {
            addActs();
            addGuards();
            runShift();
            if (pick(2) == 0) {
                runShift();
            }
            if (pick(2) == 0) {
                due("clear()", model.clear(), hall.clear());
            }
        }
    }

    private static int pick(int bound) {
        seed = seed * 6364136223846793005L + 1442695040888963407L;
        return (int) ((seed >>> 33) % bound);
    }

    private static int number() {
        switch (pick(12)) {
            case 0:
                return pick(2) == 0 ? Integer.MIN_VALUE + pick(2) : Integer.MAX_VALUE - pick(2);
            case 1:
                return -pick(3);
            case 2:
                return 7 + pick(4);
            case 3:
                return pick(1 << 30) * 4;
            default:
                return pick(6);
        }
    }

    private void addActs() {
        int acts = pick(45);
        for (int i = 0; i < acts; i++) {
            // little that can fail at first, so that items and rows are there later on
            int op = i < 8 ? new int[] {21, 21, 3, 0, 0, 13, 16, 18}[i] : pick(25);
            addAct(pick(30) == 0 ? pick(29) - 2 : op);
        }
    }

    private void addAct(int op) {
        int[] numbers = {number(), number(), number()};
        String names = op >= 0 && op <= 24 ? ModelHall.NAMES[op] : "";
        for (int i = 0; i < names.length(); i++) {
            char name = names.charAt(i);
            if (name != 'V' && pick(60) != 0) {
                boolean near = name != 'K' && name != 'L' && pick(2) == 0;
                numbers[i] = pick(near ? 2 : ModelHall.greatest(name) + 1);
            }
        }
        due("act", model.act(op, numbers[0], numbers[1], numbers[2]),
                hall.act(op, numbers[0], numbers[1], numbers[2]), op, numbers[0], numbers[1], numbers[2]);
    }

    private void addGuards() {
        int guards = pick(7);
        for (int i = 0; i < guards; i++) {
            int from = pick(30) == 0 ? pick(50) - 5 : pick(12);
            int to = from + (pick(20) == 0 ? pick(3) - 1 : 1 + pick(30));
            int failure = pick(15) == 0 ? pick(12) - 2 : pick(8);
            int line = pick(30) == 0 ? pick(50) - 5 : pick(41);
            due("guard", model.guard(from, to, failure, line), hall.guard(from, to, failure, line),
                    from, to, failure, line);
        }
    }

    private void runShift() {
        int x = number();
        int many = pick(4) == 0 ? pick(68) - 1 : 64;
        due("run", model.run(x, many), hall.run(x, many), x, many);
        for (int i = 0; i < 8; i++) {
            compareOne(i);
            for (int j = 0; j < 4; j++) {
                due("item", model.item(i, j), hall.item(i, j), i, j);
                due("onBelt", model.onBelt(j, i), hall.onBelt(j, i), j, i);
            }
            for (int j = 0; j < 3; j++) {
                due("counted", model.counted(j, i), hall.counted(j, i), j, i);
            }
        }
        for (int i = 0; i < 16; i++) {
            due("row", model.row(i / 4, i % 4), hall.row(i / 4, i % 4), i / 4, i % 4);
        }
        compareOne(number());
        compareTwo(number(), number());
        compareTwo(pick(8), number());
        compareTwo(number(), pick(8));
    }

    private void compareOne(int i) {
        due("told", model.told(i), hall.told(i), i);
        due("caught", model.caught(i), hall.caught(i), i);
        due("register", model.register(i), hall.register(i), i);
    }

    private void compareTwo(int i, int j) {
        due("item", model.item(i, j), hall.item(i, j), i, j);
        due("row", model.row(i, j), hall.row(i, j), i, j);
        due("onBelt", model.onBelt(i, j), hall.onBelt(i, j), i, j);
        due("counted", model.counted(i, j), hall.counted(i, j), i, j);
    }

    private void due(String name, int want, int got, int... numbers) {
        calls++;
        // what an object answers after so many calls is free
        if (calls <= MOST_CALLS) {
            CHECKS.due(want == got ? "" : "run " + run + " call " + calls + ": " + name
                    + java.util.Arrays.toString(numbers), want, got);
        }
    }
}
