/** Counts answers that are not as due, and ends a test's main method with exit code 1 if there were any. */
final class Check {
    private final String test;
    private String place = "";
    private int checked = 0;
    private int wrong = 0;

    Check(String test) {
        this.test = test;
    }

    /** What the answers from here on are about. */
    void in(String newPlace) {
        place = " " + newPlace;
    }

    void due(String call, long got, long want) {
        checked++;
        if (got != want) {
            tell(call, Long.toString(got), Long.toString(want));
        }
    }

    void due(String call, boolean got, boolean want) {
        due(call, Boolean.toString(got), Boolean.toString(want));
    }

    void due(String call, String got, String want) {
        checked++;
        if (!got.equals(want)) {
            tell(call, got, want);
        }
    }

    private void tell(String call, String got, String want) {
        wrong++;
        System.out.println(test + place + ": " + call + " answered " + got + ", due is " + want);
    }

    int checked() {
        return checked;
    }

    boolean allDue() {
        return wrong == 0;
    }

    void end() {
        System.out.println(test + ": " + checked + " answers, " + wrong + " not as due");
        if (wrong != 0 || checked == 0) {
            System.exit(1);
        }
    }
}
