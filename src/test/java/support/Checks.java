/** Counts and prints answers that are not the ones that are due. */
final class Checks {
    private int wrong = 0;
    private int all = 0;

    void due(String call, long want, long got) {
        all++;
        if (got != want) {
            wrong++;
            System.out.println(call + " answered " + got + ", due is " + want);
        }
    }

    void end() {
        System.out.println(all + " answers, " + wrong + " not as due");
        if (wrong != 0) {
            System.exit(1);
        }
    }
}
