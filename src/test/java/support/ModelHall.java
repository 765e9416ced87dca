import java.util.ArrayList;
import java.util.Arrays;
import java.util.List;

/**
 * The document told a second time, in quite another way: real classes, arrays of them, casts and the
 * exceptions of the Java machine. Only tests may be written so.
 */
final class ModelHall {
    private static class Item {
        int weight;
        int stamps;

        int stamp() {
            stamps++;
            return weight + stamps;
        }
    }

    private static class Bag extends Item {
        @Override
        int stamp() {
            return 2 * super.stamp();
        }
    }

    private static class Crate extends Bag {
    }

    private interface Alive {
        int feed();
    }

    private static class Cage extends Crate implements Alive {
        @Override
        int stamp() {
            return super.stamp() - 1;
        }

        @Override
        public int feed() {
            return weight += 5;
        }
    }

    private static class Dog extends Item implements Alive {
        @Override
        int stamp() {
            return 3 * super.stamp();
        }

        @Override
        public int feed() {
            weight += weight;
            return weight - stamps;
        }
    }

    private static final class Alarm extends RuntimeException {
        private static final long serialVersionUID = 1L;
        final int number;

        Alarm(int number) {
            this.number = number;
        }
    }

    private static final class TooLarge extends RuntimeException {
        private static final long serialVersionUID = 1L;
    }

    /** What each act names: Place, Kind, Belt, Register, couNter, Grid, Width, Alarm, any Value, Line. */
    static final String[] NAMES = {
        "PKR", "P", "PP", "BKR", "BRP", "PBR", "RB", "B", "RP", "PR", "RP", "RP", "PK",
        "NR", "NR", "RNR", "GRW", "RG", "AR", "A", "A", "RV", "RR", "L", "RL"};

    private final List<int[]> acts = new ArrayList<>();
    private final List<int[]> guards = new ArrayList<>();
    private Item[] places;
    private Item[][] belts;
    private int[][] counters;
    private int[][][] grids;
    private Alarm[] alarms;
    private int[] registers;
    private int failure;
    private int failedLine;
    private int alarmNumber;
    private int done;
    private int[] caught;
    private int line;

    ModelHall() {
        begin(0);
    }

    private void begin(int x) {
        places = new Item[8];
        belts = new Item[4][];
        counters = new int[3][];
        grids = new int[2][][];
        alarms = new Alarm[3];
        registers = new int[] {x, 0, 0, 0, 0, 0};
        failure = 0;
        failedLine = -1;
        alarmNumber = 0;
        done = 0;
        caught = new int[8];
        line = 0;
    }

    /** The greatest good number for a letter of NAMES; every number is good for a value. */
    static int greatest(char name) {
        switch (name) {
            case 'P': return 7;
            case 'K': return 4;
            case 'B': return 3;
            case 'R': return 5;
            case 'N': return 2;
            case 'G': return 1;
            case 'W': return 5;
            case 'A': return 2;
            case 'L': return 40;
            default: return Integer.MAX_VALUE;
        }
    }

    int act(int op, int a, int b, int c) {
        if (op < 0 || op > 24) {
            return -101;
        }
        int[] numbers = {a, b, c};
        for (int i = 0; i < NAMES[op].length(); i++) {
            char name = NAMES[op].charAt(i);
            if (name != 'V' && (numbers[i] < 0 || numbers[i] > greatest(name))) {
                return -101;
            }
        }
        if (acts.size() == 40) {
            return -102;
        }
        acts.add(new int[] {op, a, b, c});
        return acts.size() - 1;
    }

    int guard(int from, int to, int kind, int onward) {
        if (from < 0 || to <= from || to > 40 || kind < 0 || kind > 7 || onward < 0 || onward > 40) {
            return -101;
        }
        if (guards.size() == 5) {
            return -102;
        }
        guards.add(new int[] {from, to, kind, onward});
        return guards.size() - 1;
    }

    int clear() {
        int many = acts.size();
        acts.clear();
        guards.clear();
        return many;
    }

    int run(int x, int many) {
        if (many < 0 || many > 64) {
            return -101;
        }
        begin(x);
        while (line < acts.size()) {
            if (done == many) {
                return 2;
            }
            int here = line++;
            done++;
            int kind = failureOf(acts.get(here));
            if (kind != 0 && !goesToGuard(here, kind)) {
                failure = kind;
                failedLine = here;
                return 1;
            }
        }
        return 0;
    }

    private boolean goesToGuard(int here, int kind) {
        for (int[] guard : guards) {
            if (guard[0] <= here && here < guard[1] && (guard[2] == 0 || guard[2] == kind)) {
                caught[kind]++;
                line = guard[3];
                return true;
            }
        }
        return false;
    }

    private int failureOf(int[] act) {
        try {
            perform(act[0], act[1], act[2], act[3]);
            return 0;
        } catch (NullPointerException e) {
            return 1;
        } catch (NegativeArraySizeException e) {
            return 2;
        } catch (ArrayIndexOutOfBoundsException e) {
            return 3;
        } catch (ClassCastException e) {
            return 4;
        } catch (ArrayStoreException e) {
            return 5;
        } catch (TooLarge e) {
            return 6;
        } catch (Alarm e) {
            alarmNumber = e.number;
            return 7;
        }
    }

    private void perform(int op, int a, int b, int c) {
        switch (op) {
            case 0:
                places[a] = newItem(b);
                places[a].weight = registers[c];
                break;
            case 1: places[a] = null; break;
            case 2: places[a] = places[b]; break;
            case 3: belts[a] = newBelt(b, small(registers[c])); break;
            case 4: belts[a][registers[b]] = places[c]; break;
            case 5: places[a] = belts[b][registers[c]]; break;
            case 6: registers[a] = belts[b].length; break;
            case 7: belts[a] = null; break;
            case 8: registers[a] = places[b].weight; break;
            case 9: places[a].weight = registers[b]; break;
            case 10: registers[a] = places[b].stamp(); break;
            case 11: registers[a] = ((Alive) places[b]).feed(); break;
            case 12: newBelt(b, 0).getClass().getComponentType().cast(places[a]); break;
            case 13: counters[a] = new int[small(registers[b])]; break;
            case 14: counters[a][registers[b]]++; break;
            case 15: registers[a] = counters[b][registers[c]]; break;
            case 16: grids[a] = new int[small(registers[b])][c]; break;
            case 17: registers[a] = Arrays.stream(grids[b]).mapToInt(row -> row.length).sum(); break;
            case 18: alarms[a] = new Alarm(registers[b]); break;
            case 19: alarms[a] = null; break;
            case 20: throw alarms[a];
            case 21: registers[a] = b; break;
            case 22: registers[a] += registers[b]; break;
            case 23: line = a; break;
            default: line = registers[a] < 1 ? b : line; break;
        }
    }

    private static int small(int size) {
        if (size > 8) {
            throw new TooLarge();
        }
        return size;
    }

    private static Item newItem(int kind) {
        switch (kind) {
            case 0: return new Item();
            case 1: return new Bag();
            case 2: return new Crate();
            case 3: return new Cage();
            default: return new Dog();
        }
    }

    private static Item[] newBelt(int kind, int size) {
        switch (kind) {
            case 0: return new Item[size];
            case 1: return new Bag[size];
            case 2: return new Crate[size];
            case 3: return new Cage[size];
            default: return new Dog[size];
        }
    }

    private static int kindOf(Item item) {
        if (item == null) {
            return -1;
        }
        if (item instanceof Dog) {
            return 4;
        }
        if (item instanceof Cage) {
            return 3;
        }
        if (item instanceof Crate) {
            return 2;
        }
        return item instanceof Bag ? 1 : 0;
    }

    int told(int what) {
        switch (what) {
            case 0: return failure;
            case 1: return failedLine;
            case 2: return alarmNumber;
            case 3: return done;
            case 4: return Arrays.stream(caught).sum();
            default: return -101;
        }
    }

    int caught(int kind) {
        return kind < 1 || kind > 7 ? -101 : caught[kind];
    }

    int register(int which) {
        return which < 0 || which > 5 ? 0 : registers[which];
    }

    int item(int place, int what) {
        if (place < 0 || place > 7 || what < 0 || what > 3) {
            return -101;
        }
        Item item = places[place];
        if (item == null) {
            return -1;
        }
        switch (what) {
            case 0: return kindOf(item);
            case 1: return item.weight;
            case 2: return item.stamps;
            default: return Arrays.asList(places).indexOf(item);
        }
    }

    int row(int which, int what) {
        int[] most = {3, 2, 1, 3};
        if (what < 0 || what > 3 || which < 0 || which > most[what]) {
            return -101;
        }
        switch (what) {
            case 0: return belts[which] == null ? -1 : belts[which].length;
            case 1: return counters[which] == null ? -1 : counters[which].length;
            case 2: return grids[which] == null ? -1 : grids[which].length;
            default: return belts[which] == null ? -1 : beltKind(belts[which]);
        }
    }

    private static int beltKind(Item[] belt) {
        for (int kind = 4; kind > 0; kind--) {
            if (newBelt(kind, 0).getClass() == belt.getClass()) {
                return kind;
            }
        }
        return 0;
    }

    int onBelt(int belt, int i) {
        if (belt < 0 || belt > 3) {
            return -101;
        }
        boolean there = belts[belt] != null && i >= 0 && i < belts[belt].length;
        return there ? kindOf(belts[belt][i]) : -1;
    }

    int counted(int counter, int i) {
        if (counter < 0 || counter > 2) {
            return -101;
        }
        boolean there = counters[counter] != null && i >= 0 && i < counters[counter].length;
        return there ? counters[counter][i] : 0;
    }
}
