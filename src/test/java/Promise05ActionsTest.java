/** Promise 5: what each ACTION does when it is run. */
final class Promise05ActionsTest {
    private static void noteAndAsk() {
        Rig rig = new Rig("note and ask").program(0, "NOTE -7", "NOTE 2147483647", "ASK", "CANCEL -1", "ASK");
        rig.runAll().notes(-7, Integer.MAX_VALUE, 1, 0).due("state 0", 9);
        rig = new Rig("ask in a shield").program(0, "SHIELD 1", "ASK").program(1, "ASK", "CANCEL -1", "ASK");
        rig.runAll().notes(1, 0, 0).due("state 0", 9);
    }

    private static void delay() {
        Rig rig = new Rig("delay").program(0, "DELAY 50", "DELAY 1", "NOTE 1");
        rig.runAll().due("count 3", 51).notes(1).due("count 5", 3);
    }

    private static void launchFillsASlot() {
        Rig rig = new Rig("launch").program(0, "LAUNCH 1 2", "LAUNCH 2 0", "LAUNCH 3 2", "NOTE 9");
        rig.program(1, "NOTE 1").program(2, "NOTE 2").program(3, "NOTE 3").runAll().notes(9, 1, 2, 3);
        rig.due("about 0 5", 2).due("about 0 6", -1).due("about 0 7", 3).due("state 0", 8);
        for (int job = 1; job <= 3; job++) {
            rig.due("about " + job + " 0", 0).due("about " + job + " 1", 1);
        }
    }

    private static void launchWithACause() {
        Rig rig = new Rig("launch with a cause").program(0, "CANCEL -1", "LAUNCH 1 0", "ASK").program(1, "ASK", "YIELD");
        rig.runAll().notes(0, 1).due("state 1", 8).due("state 0", 9);
    }

    private static void awaitOutcomes() {
        Rig rig = new Rig("await one that completes").program(0, "LAUNCH 1 0", "AWAIT 0", "AWAIT 0", "NOTE 1", "RETURN 1");
        rig.program(1, "DELAY 4", "RETURN 20").due("start 0", 0).due("run 2", 2).due("about 0 3", 0);
        rig.due("run 1", 1).due("about 0 3", 20).due("count 4", 1).notes();
        rig.due("run 9", 1).due("result 0", 41).notes(1);
        rig = new Rig("await one that fails").program(0, "SUPERVISOR 1").program(1, "LAUNCH 2 0", "TRY 3 4", "TRY 3 4");
        rig.program(2, "DELAY 4", "RETURN 20").program(3, "AWAIT 0", "NOTE 1").program(4, "NOTE 2");
        rig.program(5, "THROW 8").program(9, "SUPERVISOR 6").program(6, "LAUNCH 5 0", "TRY 3 4", "TRY 3 4", "NOTE 3");
        rig.due("start 9", 0).due("run 100", 5).notes(208, 108, 2, 108, 2, 3).due("state 0", 8);
        rig = new Rig("await one that is cancelled").program(0, "LAUNCH 1 0", "YIELD", "CANCEL 0", "TRY 2 3", "NOTE 4");
        rig.program(1, "DELAY 5").program(2, "AWAIT 0", "NOTE 1").program(3, "NOTE 2");
        rig.runAll().notes().due("state 0", 9).due("state 1", 9).due("about 0 3", 0);
        rig = new Rig("await one that was cancelled before").program(0, "LAUNCH 1 0", "YIELD", "AWAIT 0", "NOTE 4");
        rig.program(1, "CANCEL -1").runAll().notes().due("state 0", 9).due("count 5", 3);
    }

    private static void joinOutcomes() {
        Rig rig = new Rig("join").program(0, "SUPERVISOR 1").program(1, "LAUNCH 2 0", "LAUNCH 3 1", "LAUNCH 4 2",
                "JOIN 0", "JOIN 1", "JOIN 2", "NOTE 1");
        rig.program(2, "DELAY 1", "RETURN 9").program(3, "DELAY 2", "THROW 9").program(4, "DELAY 3", "CANCEL -1");
        rig.runAll().notes(209, 1).due("result 1", 0).due("state 0", 8).due("count 3", 3);
        rig = new Rig("join again").program(0, "SUPERVISOR 1").program(1, "LAUNCH 2 0", "YIELD", "JOIN 0", "NOTE 1");
        rig.program(2, "THROW 9").runAll().notes(209, 1).due("state 1", 8).due("count 5", 5);
        rig = new Rig("join one that had completed").program(0, "LAUNCH 1 0", "YIELD", "JOIN 0", "RETURN 1");
        rig.program(1, "RETURN 20").runAll().due("result 1", 20).due("result 0", 1);
        rig = new Rig("join and fail").program(0, "LAUNCH 1 0", "JOIN 0", "NOTE 1", "JOIN 0", "NOTE 2").program(1, "THROW 6");
        rig.runAll().notes(1, 206).due("cause 0", 6).due("about 0 2", 0);
    }

    private static void emptySlots() {
        Rig rig = new Rig("empty slots").program(0, "AWAIT 0", "JOIN 1", "CANCEL 2", "NOTE 1");
        rig.runAll().notes(1).due("count 5", 1).due("count 7", 4).due("state 0", 8);
        rig = new Rig("empty slots with a cause").program(0, "CANCEL -1", "CANCEL 1", "NOTE 1", "AWAIT 0", "NOTE 2");
        rig.runAll().notes(1).due("count 7", 4).due("state 0", 9);
    }

    private static void cancelAChild() {
        Rig rig = new Rig("cancel a child").program(0, "LAUNCH 1 0", "LAUNCH 1 1", "YIELD", "CANCEL 1", "CANCEL 1", "ASK");
        rig.program(1, "DELAY 5", "NOTE 4").runAll().notes(1, 4).due("state 0", 8).due("state 1", 8).due("state 2", 9);
    }

    private static void thrown() {
        Rig rig = new Rig("throw").program(0, "NOTE 1", "THROW 89", "NOTE 2");
        rig.runAll().notes(1, 289).due("cause 0", 89).due("state 0", 10).due("about 0 4", 0);
    }

    private static void newJobsThatAreWaitedFor(String action, int sort) {
        Rig rig = new Rig(action).program(0, action, "NOTE 2", "RETURN 1").program(1, "LAUNCH 2 0", "RETURN 30");
        rig.program(2, "DELAY 6", "NOTE 1", "RETURN 500");
        rig.due("start 0", 0).due("run 3", 3).due("about 1 1", sort).due("about 1 0", 0).due("state 1", 12);
        rig.due("about 0 5", -1).due("about 0 8", 1).due("state 0", 4).due("about 0 3", 0);
        rig.due("run 1", 1).due("about 0 3", 30).due("run 9", 1).notes(1, 2).due("result 0", 31).due("result 1", 30);
    }

    private static void newJobsThatFail(String action) {
        Rig rig = new Rig(action + " fails").program(0, "TRY 3 4", "NOTE 2").program(3, action, "NOTE 3");
        rig.program(1, "THROW 44").program(4, "ASK").runAll().notes(144, 1, 2).due("state 0", 8).due("cause 1", 44);
        rig = new Rig(action + " is cancelled").program(0, "TRY 3 4", "NOTE 2").program(3, action, "NOTE 3");
        rig.program(1, "CANCEL -1").runAll().notes().due("state 0", 9).due("state 1", 9).due("count 5", 3);
    }

    private static void limitIsUp() {
        Rig rig = new Rig("limit").program(0, "TRY 1 2", "NOTE 5").program(1, "LIMIT 10 3").program(2, "ASK");
        rig.program(3, "LAUNCH 4 0", "DELAY 50", "NOTE 1").program(4, "DELAY 50", "NOTE 2");
        rig.runAll().notes(198, 1, 5).due("count 3", 10).due("cause 1", 98).due("cause 2", 0).due("state 1", 10);
        rig.due("state 2", 9).due("state 0", 8).due("count 6", 0);
    }

    private static void limitAndDelayOfTheSameTime() {
        Rig rig = new Rig("limit began first").program(0, "LIMIT 10 1").program(1, "DELAY 10", "NOTE 1");
        rig.due("start 0", 0).due("run 2", 2).due("count 6", 2).due("run 1", 1).due("count 3", 10);
        rig.due("count 4", 1).due("state 1", 10).due("run 9", 1).notes(298);
        rig = new Rig("delay began first").program(0, "LAUNCH 1 0", "YIELD", "LIMIT 10 2").program(1, "DELAY 10", "ASK");
        rig.program(2, "DELAY 9", "DELAY 1", "ASK", "YIELD", "ASK");
        rig.due("start 0", 0).due("run 100", 8).notes(1, 298).due("cause 2", 98).due("cause 0", 98);
    }

    private static void theLimitOfWhoIsReady() {
        Rig rig = new Rig("delay first, then its limit").program(0, "LAUNCH 1 0", "LIMIT 5 2").program(1, "DELAY 4");
        rig.program(2, "LAUNCH 3 0", "JOIN 0").program(3, "DELAY 2", "DELAY 3", "ASK", "YIELD", "ASK");
        rig.runAll().notes(298).due("cause 2", 98).due("state 3", 9);
    }

    private static void returnLeavesOneFrame() {
        Rig rig = new Rig("return").program(0, "TRY 1 2", "NOTE 3", "RETURN -8", "NOTE 4").program(1, "RETURN 5", "NOTE 1");
        rig.runAll().notes(3).due("result 0", -3).due("count 7", 4);
        rig = new Rig("sums wrap around").program(0, "TRY 1 2", "RETURN 1").program(1, "RETURN 2147483647");
        rig.runAll().due("result 0", Integer.MIN_VALUE);
    }

    /** Each of 1, 2, 4, 5, 8, 9, 10 throws CANCELLED; the ACTION counts as done. */
    private static void stoppedByACause() {
        String[] waits = {"DELAY 1", "YIELD", "AWAIT 0", "JOIN 0", "SCOPE 9", "SUPERVISOR 9", "LIMIT 5 9"};
        for (String wait : waits) {
            Rig rig = new Rig("with a cause: " + wait).program(0, "CANCEL -1", "TRY 1 2", "NOTE 4");
            rig.program(1, wait, "NOTE 1").program(2, "NOTE 2");
            rig.runAll().notes().due("state 0", 9).due("count 7", 3).due("count 5", 1).due("count 0", 1).due("count 6", 0);
            rig = new Rig("with a cause and a shield: " + wait).program(0, "CANCEL -1", "SHIELD 1", "NOTE 2", wait, "NOTE 4");
            rig.program(1, "TRY 3 9").program(3, wait, "NOTE 1").runAll().notes(1, 2).due("state 0", 9).due("count 7", 7);
        }
    }

    private static void othersAreNotStopped() {
        Rig rig = new Rig("with a cause").program(0, "CANCEL -1", "LAUNCH 1 0", "CANCEL 0", "TRY 2 3", "AFTER 2 3", "SHIELD 2");
        rig.program(0, "RETURN 4").program(2, "NOTE 2").program(3, "NOTE 3");
        rig.runAll().notes(2, 2, 3, 2).due("state 0", 9).due("about 0 3", 4).due("cause 1", 0);
    }

    private static void aTwentyFifthJob() {
        for (String action : new String[] {"LAUNCH 9 0", "SCOPE 9", "SUPERVISOR 9", "LIMIT 5 9"}) {
            Rig rig = new Rig("25th by " + action).program(0, "TRY 1 2", "NOTE 3").program(1, action, "NOTE 1");
            rig.program(2, "NOTE 2");
            for (int i = 0; i < 23; i++) {
                rig.due("start 9", i);
            }
            rig.due("start 0", 23).due("run 100", 24).notes(196, 2, 3).due("count 0", 24).due("state 23", 8);
            rig.due("about 23 5", -1).due("about 23 8", 0).due("count 6", 0).due("count 7", 4);
        }
    }

    private static void aCauseComesBeforeTheTwentyFifth() {
        Rig rig = new Rig("cause before 96").program(0, "CANCEL -1", "TRY 1 2").program(1, "SCOPE 9").program(2, "NOTE 2");
        for (int i = 0; i < 23; i++) {
            rig.due("start 9", i);
        }
        rig.due("start 0", 23).due("run 100", 24).notes().due("state 23", 9);
    }

    public static void main(String[] args) {
        noteAndAsk();
        delay();
        launchFillsASlot();
        launchWithACause();
        awaitOutcomes();
        joinOutcomes();
        emptySlots();
        cancelAChild();
        thrown();
        newJobsThatAreWaitedFor("SCOPE 1", 2);
        newJobsThatAreWaitedFor("SUPERVISOR 1", 3);
        newJobsThatAreWaitedFor("LIMIT 50 1", 4);
        newJobsThatFail("SCOPE 1");
        newJobsThatFail("SUPERVISOR 1");
        newJobsThatFail("LIMIT 50 1");
        limitIsUp();
        limitAndDelayOfTheSameTime();
        theLimitOfWhoIsReady();
        returnLeavesOneFrame();
        stoppedByACause();
        othersAreNotStopped();
        aTwentyFifthJob();
        aCauseComesBeforeTheTwentyFifth();
        Rig.end();
    }
}
