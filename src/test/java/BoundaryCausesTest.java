/** Terms: the least and the greatest failures, a 25th JOB, a CAUSE before all else, and whom GIVING leaves alone. */
final class BoundaryCausesTest {
    /** "a failure 1 .. 99": what can be thrown, caught, told and given, at both ends, and 96, 97 and 98. */
    private static void leastAndGreatest(int x, String failing) {
        Rig rig = new Rig("failure " + x).program(0, failing).program(9, "DELAY 50").runAll();
        rig.notes(200 + x).due("cause 0", x).due("state 0", 10).due("about 0 2", 0).refused("result 0", Rig.ARITHMETIC);
        rig = new Rig("failure " + x + " is caught").program(0, "TRY 1 8", "NOTE 2").program(1, failing)
                .program(9, "DELAY 50").runAll();
        rig.notes(100 + x, 2).due("state 0", 8).refused("cause 0", Rig.NO_ELEMENT);
    }

    private static void failuresOfTheRuntime() {
        Rig rig = new Rig("96 is caught far above").program(0, "TRY 1 8", "NOTE 2").program(1, "SCOPE 2")
                .program(2, "SCOPE 2").runAll();
        rig.notes(196, 2).due("state 0", 8).due("cause 1", 96).due("cause 23", 96).due("count 1", 24);
        rig = new Rig("97 is caught far above").program(0, "TRY 1 8", "NOTE 2").program(1, "SHIELD 1").runAll()
                .notes(197, 2).due("state 0", 8);
    }

    /** "THROW a (1 .. 89)": a child's failure is its parent's, and a supervisor tells it. */
    private static void failuresOfChildren(int x) {
        Rig rig = new Rig("child fails " + x).program(0, "LAUNCH 1 0", "DELAY 9").program(1, "THROW " + x).runAll();
        rig.notes(200 + x).due("cause 0", x).due("cause 1", x).due("count 3", 0);
        rig = new Rig("supervised child fails " + x).program(0, "SUPERVISOR 2").program(2, "LAUNCH 1 0")
                .program(1, "THROW " + x).runAll();
        rig.notes(200 + x).due("state 0", 8).due("cause 2", x);
        rig = new Rig("suppressed " + x).program(0, "CANCEL -1", "THROW " + x).runAll().notes().due("about 0 2", 1)
                .due("state 0", 9);
        rig = new Rig("kept " + x).program(0, "AFTER 1 2").program(1, "THROW " + x).program(2, "NOTE 2").runAll()
                .notes(2, 200 + x);
    }

    private static Rig withOthers(String about, int others) {
        Rig rig = new Rig(about).program(9, "DELAY 5", "RETURN 4");
        for (int job = 0; job < others; job++) {
            rig.due("start 9", job);
        }
        return rig;
    }

    /** "A 25th JOB: THROW 96 instead": the 24th begins, by each ACTION that begins one. */
    private static void theTwentyFourthAndTheTwentyFifth() {
        for (String action : new String[] {"LAUNCH 9 1", "SCOPE 9", "SUPERVISOR 9", "LIMIT 9 9"}) {
            Rig rig = withOthers("24th by " + action, 22).program(0, action, "NOTE 1");
            rig.due("start 0", 22).due("run 100", action.startsWith("LAUNCH") ? 47 : 48).notes(1).due("state 22", 8)
                    .due("result 23", 4);
            rig = withOthers("25th by " + action, 23).program(0, action, "NOTE 1");
            rig.due("start 0", 23).due("run 24", 24).notes(296).due("cause 23", 96).due("state 23", 10)
                    .due("count 0", 24);
            rig.due("about 23 6", -1).due("about 23 8", 0).due("count 4", 0).due("count 6", 23).due("run 100", 23)
                    .due("count 1", 24);
        }
    }

    /** What throws 96 fills no SLOT: the JOB that was there stays. */
    private static void theSlotStaysAsItWas() {
        Rig rig = withOthers("slot stays", 22).program(0, "LAUNCH 9 2", "TRY 1 2", "AWAIT 2", "NOTE 3")
                .program(1, "LAUNCH 8 2", "NOTE 1").program(2, "NOTE 2");
        rig.due("start 0", 22).due("run 23", 23).notes(196, 2).due("about 22 7", 23).due("about 22 8", 1);
        rig.due("run 100", 25).notes(196, 2, 3).due("result 22", 4);
    }

    /** "before all else": what is waited for would go on at once, if there were no CAUSE. */
    private static void aCauseComesBeforeAFinishedOne() {
        for (String wait : new String[] {"AWAIT 0", "JOIN 0"}) {
            Rig rig = new Rig("cause before finished: " + wait)
                    .program(0, "LAUNCH 1 0", "YIELD", "CANCEL -1", wait, "NOTE 2").program(1, "RETURN 4");
            rig.runAll().notes().due("state 0", 9).due("about 0 3", 0).due("state 1", 8).due("count 7", 5);
        }
        Rig rig = new Rig("cause before a failed one").program(0, "SUPERVISOR 1")
                .program(1, "LAUNCH 2 0", "YIELD", "CANCEL -1", "TRY 3 4").program(2, "THROW 5");
        rig.program(3, "AWAIT 0").program(4, "NOTE 4").runAll().notes(205).due("state 1", 9).due("about 1 2", 0);
    }

    /** "before all else": a CAUSE, not the 25th JOB, is what is thrown; a LAUNCH is not stopped, and meets the 25th. */
    private static void aCauseComesBeforeTheTwentyFifth() {
        for (String action : new String[] {"SCOPE 9", "SUPERVISOR 9", "LIMIT 9 9"}) {
            Rig rig = withOthers("cause before 96: " + action, 23).program(0, "CANCEL -1", "TRY 1 2").program(1, action)
                    .program(2, "NOTE 2");
            rig.due("start 0", 23).due("run 24", 24).notes().due("state 23", 9).due("about 23 2", 0);
        }
        Rig rig = withOthers("launch with a cause", 23).program(0, "CANCEL -1", "TRY 1 2").program(1, "LAUNCH 9 0")
                .program(2, "NOTE 2");
        rig.due("start 0", 23).due("run 24", 24).notes(196, 2).due("state 23", 9);
        rig = withOthers("shielded with a cause", 23).program(0, "CANCEL -1", "SHIELD 3").program(3, "TRY 1 2")
                .program(1, "SCOPE 9").program(2, "NOTE 2");
        rig.due("start 0", 23).due("run 24", 24).notes(196, 2).due("state 23", 9);
    }

    /** "GIVING x to a JOB that is not FINISHED": a FINISHED one stays as it is, however it ended. */
    private static void finishedOnesAreGivenNothing() {
        Rig rig = new Rig("finished ones").program(0, "SUPERVISOR 1")
                .program(1, "LAUNCH 2 0", "LAUNCH 3 1", "LAUNCH 4 2", "YIELD", "CANCEL 0", "CANCEL 1", "CANCEL 2",
                "ASK");
        rig.program(2, "RETURN 5").program(3, "THROW 6").program(4, "CANCEL -1").runAll().notes(206, 1);
        rig.due("result 2", 5).due("cause 3", 6).due("cause 4", 0).due("about 3 2", 0).due("count 5", 7)
                .due("state 1", 8);
        rig.refused("cause 2", Rig.NO_ELEMENT);
    }

    /** "if it waits in 1, 4 or 5": in 2, 8, 9 and 10 it goes on as it would have, and is READY only once. */
    private static void cancelledInAYield() {
        Rig rig = new Rig("in a yield").program(0, "YIELD", "NOTE 1", "YIELD", "NOTE 2").due("start 0", 0)
                .due("run 1", 1);
        rig.due("cancel 0", 1).due("count 4", 1).due("run 100", 1).notes(1).due("state 0", 9).due("count 5", 2);
    }

    private static void cancelledWhileAnInnerOneRuns() {
        for (String action : new String[] {"SCOPE 1", "SUPERVISOR 1", "LIMIT 50 1"}) {
            Rig rig = new Rig("cancelled in " + action).program(0, action, "NOTE 1").program(1, "SHIELD 2")
                    .program(2, "DELAY 6", "RETURN 3");
            rig.due("start 0", 0).due("run 2", 2).due("cancel 0", 1).due("count 4", 0).due("cause 1", 0)
                    .due("state 0", 5);
            rig.due("run 1", 1).due("count 3", 6).due("state 1", 9).due("count 4", 1).due("run 100", 1)
                    .due("state 0", 9);
            rig.notes().due("about 0 3", 0).due("about 0 2", 0);
        }
    }

    /** "(it waits for nothing then)": the end of what it waited for, and its time, no longer bring it back. */
    private static void whoWasWokenIsNotWokenAgain() {
        Rig rig = new Rig("woken once").program(0, "LAUNCH 1 0", "AFTER 2 3").program(1, "SHIELD 4")
                .program(2, "AWAIT 0").program(3, "SHIELD 5", "NOTE 3");
        rig.program(4, "DELAY 4", "RETURN 9").program(5, "DELAY 8", "NOTE 5").due("start 0", 0).due("run 2", 2)
                .due("cancel 0", 1);
        rig.due("count 4", 1).due("run 1", 1).due("count 6", 2).due("run 1", 1).due("count 3", 4).due("count 4", 0)
                .notes();
        rig.due("about 0 3", 0).due("run 100", 1).due("count 3", 8).notes(5, 3).due("state 0", 9);
    }

    /** A JOB that was put in the READY row by the end of another is not put there again by a CAUSE. */
    private static void readyByAnEndAndThenGiven() {
        Rig rig = new Rig("ready, then given").program(0, "LAUNCH 1 0", "JOIN 0", "ASK", "YIELD", "NOTE 2")
                .program(1, "RETURN 5");
        rig.due("start 0", 0).due("run 2", 2).due("count 4", 1).due("cancel 0", 1).due("count 4", 1);
        rig.due("run 100", 1).notes(0).due("state 0", 9).due("count 5", 3);
        rig = new Rig("due, then given").program(0, "DELAY 3", "NOTE 1").program(1, "DELAY 3", "ASK", "YIELD")
                .due("start 0", 0).due("start 1", 1);
        rig.due("run 3", 3).due("count 3", 3).due("count 4", 1).due("cancel 1", 1).due("count 4", 1).due("run 100", 1)
                .notes(1, 0).due("state 1", 9);
    }

    /** "CANCELLED is GIVEN to all its children": as many as there can be. */
    private static void twentyThreeChildren() {
        Rig rig = new Rig("23 children").program(0, "TRY 1 9", "TRY 1 9", "TRY 2 9", "DELAY 9");
        rig.program(1, "LAUNCH 3 0", "LAUNCH 3 1", "LAUNCH 3 2", "LAUNCH 3 0", "LAUNCH 3 1", "LAUNCH 3 2",
                "LAUNCH 3 0", "LAUNCH 3 1");
        rig.program(2, "LAUNCH 3 0", "LAUNCH 3 1", "LAUNCH 3 2", "LAUNCH 3 0", "LAUNCH 3 1", "LAUNCH 3 2", "LAUNCH 3 0")
                .program(3, "DELAY 9");
        rig.due("start 0", 0).due("run 24", 24).due("about 0 8", 23).due("count 6", 24).due("cancel 0", 1)
                .due("count 4", 24).due("count 6", 0);
        rig.due("run 23", 23).due("about 0 8", 0).due("state 0", 5).due("count 1", 23).due("run 100", 1)
                .due("state 0", 9).due("count 3", 0);
        for (int job = 1; job < 24; job++) {
            rig.due("about " + job + " 0", 0).due("cause " + job, 0).due("state " + job, 9);
        }
    }

    /** "whose children are all FINISHED": one of them that is not holds the parent. */
    private static void theLastChildOfMany() {
        Rig rig = new Rig("the last child").program(0, "LAUNCH 1 0", "LAUNCH 2 1", "LAUNCH 1 2", "RETURN 6")
                .program(1, "RETURN 1").program(2, "DELAY 9");
        rig.due("start 0", 0).due("run 4", 4).due("state 0", 12).due("about 0 8", 1).refused("result 0", Rig.STATE);
        rig.due("run 100", 1).due("result 0", 6).due("about 0 8", 0);
    }

    /** A failure is GIVEN to a parent whose BODY has ended, too, and through it to the others below. */
    private static void aFailureAfterTheBodyHasEnded() {
        Rig rig = new Rig("after the body").program(0, "LAUNCH 1 0", "LAUNCH 2 1").program(1, "DELAY 3", "THROW 1")
                .program(2, "DELAY 50", "NOTE 2");
        rig.due("start 0", 0).due("run 3", 3).due("state 0", 12).due("run 1", 1).due("state 0", 13).due("cause 0", 1)
                .due("cause 2", 0);
        rig.due("run 100", 1).due("state 0", 10).due("count 3", 3).notes(201);
    }

    public static void main(String[] args) {
        leastAndGreatest(1, "THROW 1");
        leastAndGreatest(89, "THROW 89");
        failuresOfTheRuntime();
        leastAndGreatest(98, "LIMIT 1 9");
        failuresOfChildren(1);
        failuresOfChildren(89);
        theTwentyFourthAndTheTwentyFifth();
        theSlotStaysAsItWas();
        aCauseComesBeforeAFinishedOne();
        aCauseComesBeforeTheTwentyFifth();
        finishedOnesAreGivenNothing();
        cancelledInAYield();
        cancelledWhileAnInnerOneRuns();
        whoWasWokenIsNotWokenAgain();
        readyByAnEndAndThenGiven();
        twentyThreeChildren();
        theLastChildOfMany();
        aFailureAfterTheBodyHasEnded();
        Rig.end();
    }
}
