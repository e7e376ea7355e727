/** Promise 5: how JOBS finish, wake those that wait, and pass failures on. */
final class Promise05FinishingTest {
    private static void parentsWaitForChildren() {
        Rig rig = new Rig("parents").program(0, "LAUNCH 1 0", "RETURN 1").program(1, "LAUNCH 2 0", "RETURN 2").program(2, "DELAY 3");
        rig.due("start 0", 0).due("run 3", 3).due("count 1", 0).due("state 0", 12).due("state 1", 12).due("state 2", 4);
        rig.due("run 1", 1).due("count 1", 3).due("result 0", 1).due("result 1", 2).due("result 2", 0);
    }

    private static void aFailureGoesUpAndTakesAllDown() {
        Rig rig = new Rig("up and down").program(0, "LAUNCH 1 0", "LAUNCH 2 1", "AFTER 8 3");
        rig.program(1, "LAUNCH 4 0", "AFTER 8 5").program(2, "AFTER 8 6").program(4, "DELAY 2", "THROW 33");
        rig.program(8, "DELAY 40").program(3, "NOTE 3").program(5, "NOTE 5").program(6, "NOTE 6");
        rig.runAll().notes(5, 6, 3, 233).due("count 3", 2);
        rig.due("cause 0", 33).due("cause 1", 33).due("cause 2", 0).due("cause 3", 33);
        for (int job = 0; job < 4; job++) {
            rig.due("about " + job + " 2", 0);
        }
    }

    private static void theParentIsGivenTheFailureBeforeItFinishes() {
        Rig rig = new Rig("body ended before").program(0, "LAUNCH 1 0", "RETURN 5").program(1, "DELAY 2", "THROW 3");
        rig.runAll().notes(203).due("state 0", 10).due("cause 0", 3).due("about 0 3", 5).refused("result 0", Rig.ARITHMETIC);
    }

    private static void moreFailuresAreSuppressed() {
        Rig rig = new Rig("suppressed").program(0, "LAUNCH 1 0", "LAUNCH 2 1", "LAUNCH 3 2", "AFTER 8 4");
        rig.program(1, "THROW 1").program(2, "THROW 2").program(3, "CANCEL -1").program(4, "THROW 4").program(8, "DELAY 9");
        rig.runAll().due("cause 0", 1).due("about 0 2", 1).notes(201);
        rig.due("cause 2", 0).due("about 2 2", 1).due("about 3 2", 0);
        rig = new Rig("children of one with a cause").program(0, "CANCEL -1", "LAUNCH 1 0", "LAUNCH 2 1", "LAUNCH 3 2");
        rig.program(1, "THROW 1").program(2, "THROW 2").program(3, "CANCEL -1").runAll().notes();
        rig.due("cause 0", 0).due("about 0 2", 2).due("cause 1", 1).due("cause 2", 2);
        rig = new Rig("awaited and given").program(0, "LAUNCH 1 0", "AWAIT 0").program(1, "THROW 7");
        rig.runAll().due("cause 0", 7).due("about 0 2", 1).notes(207);
        rig = new Rig("awaited, caught and given").program(0, "LAUNCH 1 0", "TRY 2 3", "YIELD", "NOTE 4").program(1, "THROW 7");
        rig.program(2, "AWAIT 0").program(3, "NOTE 3").runAll().due("cause 0", 7).due("about 0 2", 0).notes(107, 3, 207);
    }

    private static void cancelledChildrenLeaveTheParent() {
        Rig rig = new Rig("cancelled child").program(0, "LAUNCH 1 0", "JOIN 0", "ASK").program(1, "CANCEL -1", "YIELD");
        rig.runAll().notes(1).due("state 0", 8).due("state 1", 9);
    }

    private static void whoWaitsIsReadyBeforeTheSiblings() {
        Rig rig = new Rig("waiter first").program(0, "LAUNCH 1 0", "LAUNCH 2 1", "JOIN 0", "NOTE 4").program(1, "DELAY 1", "THROW 3");
        rig.program(2, "AFTER 8 5").program(5, "NOTE 5").program(8, "DELAY 9").runAll().notes(4, 5, 203);
        rig = new Rig("siblings before who sleeps").program(0, "LAUNCH 1 0", "LAUNCH 2 1", "AFTER 8 4").program(1, "DELAY 1", "THROW 3");
        rig.program(2, "AFTER 8 5").program(5, "NOTE 5").program(8, "DELAY 9").program(4, "NOTE 4").runAll().notes(5, 4, 203);
    }

    private static void supervisorsKeepTheirChildrenApart() {
        Rig rig = new Rig("supervisor").program(0, "SUPERVISOR 1", "NOTE 9").program(1, "LAUNCH 2 0", "LAUNCH 3 1", "DELAY 5", "NOTE 1");
        rig.program(2, "THROW 4").program(3, "DELAY 2", "THROW 5").runAll().notes(204, 205, 1, 9);
        rig.due("state 0", 8).due("state 1", 8).due("about 1 2", 0).due("cause 2", 4).due("cause 3", 5);
        rig = new Rig("a grandchild").program(0, "SUPERVISOR 1", "NOTE 9").program(1, "LAUNCH 2 0").program(2, "LAUNCH 3 0", "DELAY 5");
        rig.program(3, "THROW 4").runAll().notes(204, 9).due("cause 2", 4).due("cause 3", 4).due("state 1", 8);
        rig = new Rig("a supervisor itself").program(0, "SUPERVISOR 1").program(1, "LAUNCH 2 0", "THROW 6").program(2, "DELAY 5");
        rig.runAll().notes(206).due("cause 1", 6).due("cause 2", 0).due("cause 0", 6);
        rig = new Rig("a scope in a supervisor").program(0, "SUPERVISOR 1").program(1, "TRY 2 3").program(2, "SCOPE 4").program(3, "NOTE 3");
        rig.program(4, "THROW 6").runAll().notes(106, 3).due("state 1", 8).due("state 0", 8);
    }

    private static void scopesTellTheirFailureByThrowing(String action) {
        Rig rig = new Rig("failure in " + action).program(0, "LAUNCH 5 0", "TRY 1 2", "ASK", "JOIN 0").program(1, action).program(2, "ASK");
        rig.program(3, "LAUNCH 4 0", "DELAY 40", "NOTE 1").program(4, "DELAY 1", "THROW 6").program(5, "DELAY 9", "NOTE 5");
        rig.runAll().notes(106, 1, 1, 5).due("state 0", 8).due("about 0 2", 0).due("cause 2", 6);
    }

    private static void deepTrees() {
        Rig rig = new Rig("a chain of 24").program(0, "LAUNCH 0 0", "DELAY 50", "NOTE 1");
        rig.due("start 0", 0).due("run 23", 23).due("count 0", 24).due("count 1", 0).due("cancel 0", 1).due("count 4", 24);
        rig.due("run 100", 24).due("count 1", 24).due("cause 23", 0).due("cause 0", 0).due("about 23 2", 1).due("about 22 2", 0);
        for (String end : new String[] {"CANCEL -1", "THROW 5"}) {
            rig = new Rig("the root of a chain of 24 ends with " + end).program(0, "LAUNCH 1 0", "DELAY 2", end);
            rig.program(1, "TRY 2 9", "DELAY 50").program(2, "LAUNCH 1 0").runAll();
            rig.due("count 0", 24).due("count 1", 24).due("count 3", 2).due("cause 23", 0).due("noted 0", 196);
        }
        rig = new Rig("a chain of scopes").program(0, "SCOPE 0");
        rig.runAll().due("count 0", 24).due("count 1", 24).due("cause 0", 96).notes(296).due("count 5", 47);
    }

    private static void whatWaitingAddsIsAddedAtOnce() {
        Rig rig = new Rig("added at once").program(0, "LAUNCH 1 0", "AWAIT 0", "YIELD").program(1, "YIELD", "RETURN 12");
        rig.due("start 0", 0).due("run 3", 3).due("about 0 3", 12).due("cancel 0", 1).due("about 0 3", 12);
        rig.due("run 9", 1).due("state 0", 9).due("about 0 3", 12);
    }

    public static void main(String[] args) {
        parentsWaitForChildren();
        aFailureGoesUpAndTakesAllDown();
        theParentIsGivenTheFailureBeforeItFinishes();
        moreFailuresAreSuppressed();
        cancelledChildrenLeaveTheParent();
        whoWaitsIsReadyBeforeTheSiblings();
        supervisorsKeepTheirChildrenApart();
        scopesTellTheirFailureByThrowing("SCOPE 3");
        scopesTellTheirFailureByThrowing("LIMIT 50 3");
        deepTrees();
        whatWaitingAddsIsAddedAtOnce();
        Rig.end();
    }
}
