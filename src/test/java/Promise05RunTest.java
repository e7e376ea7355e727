/** Promise 5: run, how many RESUMINGS it does, and the clock. */
final class Promise05RunTest {
    private static void outOfRange() {
        Rig rig = new Rig("out of range").program(0, "NOTE 1");
        rig.due("start 0", 0);
        for (int wrong : new int[] {-1, 101, Integer.MIN_VALUE, Integer.MAX_VALUE}) {
            rig.refused("run " + wrong, Rig.ARGUMENT);
        }
        rig.due("run 0", 0).due("count 5", 0).notes();
        rig.due("run 100", 1).notes(1);
    }

    private static void noMoreThanAsked() {
        Rig rig = new Rig("no more than asked").program(0, "YIELD", "YIELD", "DELAY 4", "NOTE 1");
        rig.due("start 0", 0).due("run 1", 1).due("run 2", 2);
        rig.due("count 4", 0).due("count 3", 0).due("run 0", 0).due("count 3", 0);
        rig.due("run 1", 1).due("count 3", 4).notes(1).due("run 1", 0).due("count 5", 4);
    }

    private static void inTurn() {
        Rig rig = new Rig("in turn").program(0, "NOTE 1", "YIELD", "NOTE 3", "YIELD", "NOTE 5");
        rig.program(1, "NOTE 2", "YIELD", "NOTE 4");
        rig.due("start 0", 0).due("start 1", 1).due("run 100", 5).notes(1, 2, 3, 4, 5).due("count 3", 0);
    }

    private static void sameTimeInTheOrderTheyBegan() {
        Rig rig = new Rig("same time").program(0, "DELAY 5", "NOTE 1").program(1, "DELAY 3", "DELAY 2", "NOTE 2");
        rig.program(2, "DELAY 2", "DELAY 3", "NOTE 3").program(3, "DELAY 5", "NOTE 4").program(4, "DELAY 6", "NOTE 5");
        for (int p = 0; p < 5; p++) {
            rig.due("start " + p, p);
        }
        rig.due("run 5", 5).due("run 2", 2).due("count 3", 3);
        rig.due("run 100", 5).notes(1, 4, 3, 2, 5).due("count 3", 6);
    }

    private static void allOfOneTimeComeBeforeAnyIsResumed() {
        Rig rig = new Rig("all of one time").program(0, "DELAY 5", "NOTE 1", "YIELD", "NOTE 3").program(1, "DELAY 5", "NOTE 2");
        rig.due("start 0", 0).due("start 1", 1).due("run 3", 3).notes(1).due("count 4", 2).due("count 6", 0);
        rig.due("run 100", 2).notes(1, 2, 3);
    }

    private static void sixtyActionsAtMost() {
        Rig rig = new Rig("sixty actions").program(0, "TRY 1 1", "TRY 1 1", "TRY 2 2", "NOTE 9");
        rig.program(1, "TRY 2 2", "TRY 2 2", "TRY 2 2");
        rig.program(2, "NOTE 0", "NOTE 1", "NOTE 2", "NOTE 3", "NOTE 4", "NOTE 5", "NOTE 6", "NOTE 7");
        rig.program(3, "NOTE 77");
        rig.due("start 0", 0).due("start 3", 1).due("run 1", 1).due("count 7", 60).due("count 4", 2);
        rig.due("about 0 4", 2).due("run 1", 1).due("count 2", 52).due("noted 50", 2).due("noted 51", 77);
        rig.due("run 1", 1).due("count 7", 67).due("state 0", 8);
    }

    /** 60 ACTIONS end a BODY in one RESUMING, since nothing but another ACTION is put off. */
    private static void sixtyEndABody() {
        Rig rig = new Rig("sixty end a body").program(0, "TRY 1 9", "TRY 1 9", "TRY 1 9", "TRY 2 9", "RETURN 7");
        rig.program(1, "SHIELD 2", "SHIELD 2").program(2, "ASK", "ASK", "ASK", "ASK", "ASK", "ASK", "ASK");
        rig.program(0, "NOTE 5");
        rig.due("start 0", 0).due("run 1", 1).due("count 7", 3 * 17 + 8 + 1).due("count 4", 0).due("state 0", 8);
        rig.due("result 0", 7);
    }

    private static void sixtyAndAThrow() {
        Rig rig = new Rig("sixty and a throw").program(0, "TRY 1 9", "TRY 1 9", "TRY 1 9", "TRY 2 9", "THROW 7");
        rig.program(1, "SHIELD 2", "SHIELD 2").program(2, "ASK", "ASK", "ASK", "ASK", "ASK", "ASK", "ASK");
        rig.due("start 0", 0).due("run 1", 1).due("count 7", 60).due("count 4", 0).due("state 0", 10);
    }

    private static void sixtyAndAYield() {
        Rig rig = new Rig("sixty and a yield").program(0, "TRY 1 9", "TRY 1 9", "TRY 1 9", "TRY 2 9", "YIELD", "ASK");
        rig.program(1, "SHIELD 2", "SHIELD 2").program(2, "ASK", "ASK", "ASK", "ASK", "ASK", "ASK", "ASK");
        rig.due("start 0", 0).due("run 1", 1).due("count 7", 60).due("count 4", 1);
        rig.due("run 100", 1).due("count 7", 61).due("state 0", 8);
    }

    private static void limitsThatChangeNothingAreDueToo() {
        Rig rig = new Rig("limit with a cause").program(0, "LIMIT 10 1").program(1, "THROW 5", "NOTE 1");
        rig.program(2, "LIMIT 10 3").program(3, "LAUNCH 4 0", "THROW 5").program(4, "SHIELD 5").program(5, "DELAY 12");
        rig.due("start 0", 0).due("run 100", 3).due("count 3", 0);
        rig.due("start 2", 2).due("run 3", 3).due("state 3", 13).due("count 6", 2);
        rig.due("run 1", 1).due("count 3", 12).due("cause 3", 5).due("about 3 2", 0);
        rig.due("run 100", 1).due("cause 2", 5).notes(205, 205);
    }

    private static void aClockStepWithoutResumings() {
        Rig rig = new Rig("only the clock").program(0, "LIMIT 4 1").program(1, "LAUNCH 2 0", "THROW 3");
        rig.program(2, "SHIELD 3").program(3, "LIMIT 20 4").program(4, "DELAY 30");
        rig.due("start 0", 0).due("run 4", 4).due("count 6", 3);
        rig.due("run 1", 1).due("count 3", 20).due("count 6", 0).due("cause 3", 98);
        rig.due("run 100", 2).due("state 1", 10).due("cause 1", 3).due("state 2", 9).due("about 2 2", 1);
    }

    public static void main(String[] args) {
        outOfRange();
        noMoreThanAsked();
        inTurn();
        sameTimeInTheOrderTheyBegan();
        allOfOneTimeComeBeforeAnyIsResumed();
        sixtyActionsAtMost();
        sixtyEndABody();
        sixtyAndAThrow();
        sixtyAndAYield();
        limitsThatChangeNothingAreDueToo();
        aClockStepWithoutResumings();
        Rig.end();
    }
}
