/** Terms: the edges of DELAY, LIMIT, THE CLOCK, and of RUNNING for n RESUMINGS. */
final class BoundaryTimeTest {
    /** "DELAY a (1 .. 50)": the shortest and the longest, seen from just before. */
    private static void shortestAndLongestDelay() {
        Rig rig = new Rig("delays").program(0, "DELAY 1", "NOTE 1").program(1, "DELAY 50", "NOTE 50")
                .program(2, "DELAY 49", "NOTE 49");
        rig.due("start 1", 0).due("start 2", 1).due("start 0", 2).due("run 3", 3).due("count 3", 0).due("count 6", 3);
        rig.due("run 1", 1).due("count 3", 1).notes(1).due("run 1", 1).due("count 3", 49).notes(1, 49);
        rig.due("run 1", 1).due("count 3", 50).notes(1, 49, 50).due("run 1", 0).due("count 3", 50);
    }

    /** "LIMIT a (1 .. 50): when the clock shows a more, 98 is GIVEN": not before, and not after. */
    private static void limitAndDelay(int limit, int delay) {
        Rig rig = new Rig("limit " + limit + ", delay " + delay).program(0, "LIMIT " + limit + " 1")
                .program(1, "DELAY " + delay, "RETURN 4");
        rig.runAll();
        if (delay < limit) {
            rig.notes().due("result 0", 4).due("count 3", delay);
        } else {
            rig.notes(298).due("cause 0", 98).due("cause 1", 98).due("about 0 2", 0).due("about 1 2", 0)
                    .due("count 3", limit);
        }
        rig.due("count 6", 0).due("run 100", 0).due("count 3", Math.min(limit, delay));
    }

    private static void limitOfWhoTakesNoTime() {
        Rig rig = new Rig("limit 1, no time").program(0, "LIMIT 1 1", "LIMIT 1 9", "NOTE 2")
                .program(1, "YIELD", "YIELD", "NOTE 1");
        rig.runAll().notes(1, 2).due("state 0", 8).due("count 3", 0).due("count 6", 0);
    }

    /** "a LIMIT of a FINISHED JOB is never due": the clock does not go on to it, nor stop at it. */
    private static void limitOfAFinishedJob() {
        Rig rig = new Rig("finished before").program(0, "LIMIT 5 1", "DELAY 9", "NOTE 2").program(1, "DELAY 4");
        rig.due("start 0", 0).due("run 2", 2).due("count 6", 2).due("run 1", 1).due("count 3", 4).due("count 6", 0);
        rig.due("run 1", 1).due("count 6", 1).due("run 1", 1).due("count 3", 13).notes(2).due("about 1 2", 0);
    }

    /** "a DELAY that was left neither": the clock does not go on to it, though another is later. */
    private static void delayThatWasLeft() {
        Rig rig = new Rig("left").program(0, "DELAY 5", "NOTE 1").program(1, "DELAY 8", "NOTE 2");
        rig.due("start 0", 0).due("start 1", 1).due("run 2", 2).due("cancel 0", 1).due("count 6", 1);
        rig.due("run 1", 1).due("count 3", 0).due("run 1", 1).due("count 3", 8).notes(2).due("run 1", 0);
        rig = new Rig("left for another delay").program(0, "AFTER 1 2").program(1, "DELAY 5").program(2, "SHIELD 3")
                .program(3, "DELAY 7", "NOTE 3");
        rig.due("start 0", 0).due("run 1", 1).due("cancel 0", 1).due("run 1", 1).due("count 6", 1).due("count 3", 0);
        rig.due("run 1", 1).due("count 3", 7).notes(3).due("state 0", 9);
    }

    /** "if it is not FINISHED": a JOB whose BODY has ended, and whose child still runs, is given 98. */
    private static void limitOfABodyThatHasEnded() {
        Rig rig = new Rig("body ended").program(0, "TRY 1 9").program(1, "LIMIT 5 2")
                .program(2, "LAUNCH 3 0", "RETURN 4").program(3, "DELAY 6", "NOTE 3");
        rig.due("start 0", 0).due("run 3", 3).due("state 1", 12).due("count 6", 2);
        rig.due("run 1", 1).due("count 3", 5).due("cause 1", 98).due("cause 2", 0).due("state 1", 10)
                .due("about 1 3", 4);
        rig.due("run 100", 1).notes(198).due("result 0", 0);
    }

    /** "and has no CAUSE": of two LIMITS of one time the outer comes first, and the inner gives nothing. */
    private static void limitsOfTheSameTime() {
        Rig rig = new Rig("outer and inner").program(0, "LIMIT 10 1").program(1, "TRY 2 9").program(2, "LIMIT 10 3")
                .program(3, "DELAY 10", "NOTE 1");
        rig.runAll().notes(298).due("cause 1", 98).due("cause 2", 0).due("about 2 2", 0).due("about 1 2", 0)
                .due("count 3", 10);
        rig = new Rig("inner before outer").program(0, "LIMIT 10 1").program(1, "TRY 2 4", "RETURN 7")
                .program(2, "LIMIT 9 3").program(3, "DELAY 10");
        rig.program(4, "ASK").runAll().notes(198, 1).due("result 0", 7).due("cause 2", 98).due("count 3", 9);
    }

    /** "all of that time come in the order in which they began": 24 of them. */
    private static void twentyFourOfOneTime() {
        Rig rig = new Rig("24 of one time");
        for (int p = 0; p < 10; p++) {
            rig.program(p, "DELAY 50", "NOTE " + p);
        }
        for (int job = 0; job < 24; job++) {
            rig.due("start " + (job * 7) % 10, job);
        }
        rig.due("run 24", 24).due("count 6", 24).due("count 4", 0).due("run 1", 1).due("count 4", 23).due("count 6", 0)
                .due("count 3", 50);
        rig.due("run 100", 23).due("count 3", 50);
        for (int job = 0; job < 24; job++) {
            rig.due("noted " + job, (job * 7) % 10);
        }
    }

    /** 23 LIMITS one inside the other, and a DELAY in the innermost: as many as can become due at once. */
    private static void twentyThreeLimits(int delay) {
        Rig rig = new Rig("23 limits, delay " + delay).program(0, "TRY 1 2", "RETURN 1").program(1, "LIMIT 50 0")
                .program(2, "DELAY " + delay);
        rig.due("start 0", 0).due("run 24", 24).notes(196).due("count 0", 24).due("count 6", 24).due("count 4", 0);
        if (delay < 50) {
            rig.due("run 100", 24).notes(196).due("result 0", 24).due("count 3", delay).due("count 6", 0);
            return;
        }
        rig.due("run 100", 25).notes(196, 198).due("result 0", 1).due("cause 1", 98).due("cause 2", 0)
                .due("cause 23", 0);
        rig.due("count 3", 100).due("count 6", 0).due("about 1 2", 0).due("about 22 2", 0);
    }

    /** "as long as fewer were done": exactly n, with more to do, at both ends of n. */
    private static void exactlyAsManyAsAsked() {
        Rig rig = new Rig("as many as asked").program(0, "TRY 1 9", "TRY 1 9", "TRY 1 9", "TRY 1 9")
                .program(1, "TRY 2 9", "TRY 2 9", "TRY 2 9", "TRY 2 9");
        rig.program(2, "YIELD", "YIELD", "YIELD", "YIELD", "DELAY 1", "DELAY 1", "DELAY 1", "DELAY 1")
                .due("start 0", 0);
        rig.due("run 0", 0).due("count 5", 0).due("run 1", 1).due("count 5", 1).due("run 100", 100).due("count 5", 101);
        rig.due("run 99", 28).due("count 5", 129).due("count 3", 64).due("run 100", 0).due("run 0", 0)
                .due("count 5", 129);
        rig = new Rig("a hundred and no more").program(0, "TRY 1 9", "TRY 1 9", "TRY 1 9")
                .program(1, "TRY 2 9", "TRY 2 9", "TRY 2 9", "TRY 2 9");
        rig.program(2, "YIELD", "YIELD", "YIELD", "YIELD", "YIELD", "YIELD", "YIELD", "YIELD")
                .program(0, "YIELD", "YIELD", "YIELD");
        rig.due("start 0", 0).due("run 100", 100).due("state 0", 8).due("run 100", 0).due("count 5", 100);
    }

    /** "is the row empty, the clock goes on": not before the first RESUMING that needs it. */
    private static void theClockWaitsForTheNextResuming() {
        Rig rig = new Rig("clock waits").program(0, "DELAY 3").program(1, "YIELD");
        rig.due("start 0", 0).due("start 1", 1).due("run 2", 2).due("count 3", 0).due("run 1", 1).due("count 3", 0)
                .due("count 4", 0);
        rig.due("run 0", 0).due("count 3", 0).due("count 6", 1).due("run 1", 1).due("count 3", 3).due("count 6", 0);
    }

    /** "there is none: it is over": and it can begin again, at the time that the clock shows. */
    private static void overAndBegunAgain() {
        Rig rig = new Rig("over").due("run 100", 0).program(0, "DELAY 50").due("start 0", 0).due("run 100", 2)
                .due("run 100", 0);
        rig.due("start 0", 1).due("run 1", 1).due("count 3", 50).due("run 100", 1).due("count 3", 100);
    }

    public static void main(String[] args) {
        shortestAndLongestDelay();
        int[][] limitsAndDelays = {{1, 1}, {1, 2}, {2, 1}, {50, 49}, {50, 50}, {49, 50}, {1, 50}, {50, 1}};
        for (int[] pair : limitsAndDelays) {
            limitAndDelay(pair[0], pair[1]);
        }
        limitOfWhoTakesNoTime();
        limitOfAFinishedJob();
        delayThatWasLeft();
        limitOfABodyThatHasEnded();
        limitsOfTheSameTime();
        twentyFourOfOneTime();
        twentyThreeLimits(49);
        twentyThreeLimits(50);
        exactlyAsManyAsAsked();
        theClockWaitsForTheNextResuming();
        overAndBegunAgain();
        Rig.end();
    }
}
