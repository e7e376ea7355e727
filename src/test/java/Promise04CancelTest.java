/** Promise 4: cancel gives CANCELLED to a JOB and to all below it. */
final class Promise04CancelTest {
    private static void once() {
        Rig rig = new Rig("a delay is left").program(0, "DELAY 20", "NOTE 1");
        rig.due("start 0", 0).due("run 1", 1).due("count 6", 1);
        rig.due("cancel 0", 1).due("cause 0", 0).due("state 0", 5).due("count 4", 1).due("count 6", 0);
        rig.due("cancel 0", 0).due("about 0 2", 0).due("count 4", 1);
        rig.due("run 100", 1).due("state 0", 9).due("count 3", 0).notes();
        rig.due("cancel 0", 0);
    }

    private static void finishedOnesAreLeftAlone() {
        Rig rig = new Rig("finished ones").program(0, "RETURN 4").program(1, "THROW 5");
        rig.runAll().due("cancel 0", 0).due("state 0", 8).due("result 0", 4).refused("cause 0", Rig.NO_ELEMENT);
        rig.due("start 1", 1).due("run 1", 1).due("cancel 1", 0).due("state 1", 10).due("cause 1", 5);
    }

    private static void beforeItRuns() {
        Rig rig = new Rig("cancelled before it runs").program(0, "NOTE 1", "ASK", "LAUNCH 1 0", "YIELD", "NOTE 2");
        rig.program(1, "ASK");
        rig.due("start 0", 0).due("cancel 0", 1).due("count 4", 1).due("run 1", 1).notes(1, 0);
        rig.due("state 0", 13).due("count 7", 4);
        rig.due("run 1", 1).notes(1, 0, 1).due("state 1", 8).due("state 0", 9);
    }

    private static void childrenFirstInTheirOrder() {
        Rig rig = new Rig("children first").program(0, "LAUNCH 1 0", "LAUNCH 2 1", "AFTER 7 3");
        rig.program(1, "AFTER 7 4").program(2, "LAUNCH 8 0", "AFTER 7 5").program(8, "AFTER 7 6");
        rig.program(7, "DELAY 9").program(3, "NOTE 3").program(4, "NOTE 4").program(5, "NOTE 5").program(6, "NOTE 6");
        rig.due("start 0", 0).due("run 4", 4).due("count 6", 4);
        rig.due("cancel 0", 1).due("count 4", 4).due("count 6", 0);
        rig.due("run 4", 4).notes(4, 6, 5, 3);
        for (int job = 0; job < 4; job++) {
            rig.due("state " + job, 9);
        }
    }

    private static void whoIsFinishedOrHasACause() {
        Rig rig = new Rig("some below").program(0, "LAUNCH 1 0", "LAUNCH 2 1", "LAUNCH 3 2", "DELAY 40");
        rig.program(1, "RETURN 1").program(2, "SHIELD 4").program(3, "DELAY 30").program(4, "DELAY 30");
        rig.due("start 0", 0).due("run 4", 4).due("cancel 2", 1).due("about 0 8", 2);
        rig.due("cancel 0", 1).due("state 1", 8).due("cause 2", 0).due("cause 3", 0).due("about 2 2", 0);
        rig.due("count 6", 1).due("count 4", 2);
    }

    private static void waitsInAwaitAndJoin(String wait) {
        Rig rig = new Rig("left: " + wait).program(0, "LAUNCH 1 0", wait, "NOTE 1").program(1, "SHIELD 2");
        rig.program(2, "DELAY 9", "RETURN 5");
        rig.due("start 0", 0).due("run 2", 2).due("cancel 0", 1).due("count 4", 1);
        rig.due("run 1", 1).due("state 0", 13).due("about 0 3", 0).due("about 0 4", 0);
        rig.due("run 9", 1).due("state 0", 9).due("state 1", 9).due("about 0 3", 0).notes();
    }

    private static void shieldedOnesGoOnWaiting() {
        Rig rig = new Rig("shielded").program(0, "SHIELD 1", "NOTE 4", "YIELD", "NOTE 5");
        rig.program(1, "DELAY 3", "YIELD", "LAUNCH 2 0", "AWAIT 0", "NOTE 1").program(2, "DELAY 2", "RETURN 8");
        rig.due("start 0", 0).due("run 1", 1).due("cancel 0", 1).due("count 4", 0).due("count 6", 1);
        rig.due("run 100", 5).notes(1, 4).due("count 3", 5).due("about 0 3", 8).due("state 0", 9).due("state 1", 8);
    }

    private static void whoWaitsForAScope() {
        Rig rig = new Rig("scope").program(0, "SCOPE 1", "NOTE 1").program(1, "SHIELD 2").program(2, "DELAY 6");
        rig.due("start 0", 0).due("run 2", 2).due("cancel 0", 1).due("count 4", 0).due("cause 1", 0);
        rig.due("run 1", 1).due("state 1", 9).due("state 0", 5).due("run 1", 1).due("state 0", 9).notes();
    }

    private static void aBodyThatHasEnded() {
        Rig rig = new Rig("body ended").program(0, "LAUNCH 1 0", "RETURN 3").program(1, "DELAY 7");
        rig.due("start 0", 0).due("run 2", 2).due("state 0", 12).due("cancel 0", 1).due("state 0", 13);
        rig.due("count 4", 1).due("run 9", 1).due("state 0", 9).due("about 0 3", 3);
    }

    private static void noSuchJob() {
        Rig rig = new Rig("no such job");
        rig.refused("cancel 0", Rig.ARGUMENT).due("start 0", 0);
        for (int wrong : new int[] {-1, 1, 24, Integer.MIN_VALUE, Integer.MAX_VALUE}) {
            rig.refused("cancel " + wrong, Rig.ARGUMENT);
        }
    }

    public static void main(String[] args) {
        once();
        finishedOnesAreLeftAlone();
        beforeItRuns();
        childrenFirstInTheirOrder();
        whoIsFinishedOrHasACause();
        waitsInAwaitAndJoin("AWAIT 0");
        waitsInAwaitAndJoin("JOIN 0");
        shieldedOnesGoOnWaiting();
        whoWaitsForAScope();
        aBodyThatHasEnded();
        noSuchJob();
        Rig.end();
    }
}
