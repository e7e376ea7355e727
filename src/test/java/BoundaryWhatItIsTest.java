/** The boundary of the section "What it is": an object is used for at most 512 calls. */
final class BoundaryWhatItIsTest {
    private static final int CALLS = 512;

    private final Rig rig;
    private int made;

    private BoundaryWhatItIsTest(String about) {
        rig = new Rig(about);
    }

    private void due(String call, int want) {
        made++;
        rig.due(call, want);
    }

    /** PROGRAMS 0 .. 4 lead eight times into the next, so that PROGRAM 5 is run 32768 times. */
    private void nested(int action) {
        for (int p = 0; p < 5; p++) {
            for (int i = 1; i <= 8; i++) {
                due("act " + p + " 11 " + (p + 1) + " 9", i);
            }
        }
        for (int i = 1; i <= 8; i++) {
            due("act 5 " + action + " 50 0", i);
        }
    }

    /** All calls but two are run(100), each with 100 RESUMINGS; the last two look. */
    private int runUntilTwoAreLeft() {
        int runs = 0;
        while (made < CALLS - 2) {
            due("run 100", 100);
            runs++;
        }
        return 100 * runs;
    }

    private static void theClockGoesAllTheWay() {
        BoundaryWhatItIsTest test = new BoundaryWhatItIsTest("512 calls, the longest time");
        test.nested(1);
        test.due("start 0", 0);
        int resumings = test.runUntilTwoAreLeft();
        test.due("count 3", 50 * (resumings - 1));
        test.due("count 5", resumings);
        test.endsAtTheLast();
    }

    private static void allJobsWorkAllTheTime() {
        BoundaryWhatItIsTest test = new BoundaryWhatItIsTest("512 calls, the most actions");
        test.nested(15);
        for (int job = 0; job < 24; job++) {
            test.due("start 0", job);
        }
        int resumings = test.runUntilTwoAreLeft();
        test.due("count 7", 60 * resumings);
        test.due("count 4", 24);
        test.endsAtTheLast();
    }

    private static void refusedCallsWearNothingOut() {
        BoundaryWhatItIsTest test = new BoundaryWhatItIsTest("510 refused calls");
        String[] calls = {"act 10 0 0 0", "start 10", "cancel 0", "run 101", "result 0", "state 0", "cause 0", "about 0 0"};
        for (int i = 0; i < CALLS - 2; i++) {
            test.made++;
            test.rig.answers(calls[i % calls.length], Rig.ARGUMENT);
        }
        test.due("start 9", 0);
        test.due("run 100", 1);
        test.endsAtTheLast();
    }

    private void endsAtTheLast() {
        rig.same(made + " calls were made", made == CALLS);
    }

    public static void main(String[] args) {
        theClockGoesAllTheWay();
        allJobsWorkAllTheTime();
        refusedCallsWearNothingOut();
        Rig.end();
    }
}
