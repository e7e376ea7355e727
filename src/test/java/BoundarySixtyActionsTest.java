/** Terms: "after 60 ACTIONS in one RESUMING it is put at the end of the READY row instead of doing another". */
final class BoundarySixtyActionsTest {
    /** PROGRAM 0 does so many ACTIONS (52 .. 60), and has room for four more of its own; 5 .. 9 are free. */
    private static Rig after(int actions, String about) {
        Rig rig = new Rig(about).program(0, "TRY 1 9", "TRY 1 9", "TRY 1 9", "TRY 3 9")
                .program(1, "SHIELD 2", "SHIELD 2");
        rig.program(2, "ASK", "ASK", "ASK", "ASK", "ASK", "ASK", "ASK");
        for (int done = 52; done < actions; done++) {
            rig.program(3, "ASK");
        }
        return rig;
    }

    private static Rig resumedOnce(Rig rig) {
        return rig.due("start 0", 0).due("run 1", 1).due("count 7", 60).due("count 5", 1);
    }

    private static void fiftyNineSixtyAndOneMore() {
        after(59, "59").due("start 0", 0).due("run 100", 1).due("count 7", 59).due("state 0", 8);
        resumedOnce(after(60, "60")).due("state 0", 8).due("count 4", 0).due("run 100", 0);
        resumedOnce(after(60, "61").program(0, "NOTE 5")).due("state 0", 4).due("count 4", 1).due("about 0 4", 1);
        resumedOnce(after(60, "61, gone on").program(0, "NOTE 5")).due("run 100", 1).due("count 7", 61)
                .due("state 0", 8);
    }

    private static void thePlaceIsTheEnd() {
        Rig rig = after(60, "behind the others").program(0, "ASK").program(5, "NOTE 5").program(6, "NOTE 6");
        rig.due("start 0", 0).due("start 5", 1).due("start 6", 2).due("run 1", 1).due("count 7", 60).due("count 4", 3);
        rig.due("run 1", 1).due("state 1", 8).due("run 1", 1).due("state 2", 8).due("state 0", 4);
        rig.due("run 1", 1).due("state 0", 8);
    }

    private static void theSixtiethWaits() {
        Rig rig = resumedOnce(after(59, "60th is DELAY").program(0, "DELAY 5", "NOTE 7")).due("count 4", 0)
                .due("count 6", 1);
        rig.due("run 1", 1).due("count 3", 5).due("count 7", 61).due("state 0", 8);
        rig = resumedOnce(after(59, "60th is YIELD").program(0, "YIELD", "NOTE 7")).due("count 4", 1);
        rig.due("run 100", 1).due("count 7", 61);
        rig = resumedOnce(after(59, "60th is SCOPE").program(0, "SCOPE 9", "NOTE 7")).due("count 4", 1)
                .due("count 0", 2);
        rig.due("run 1", 1).due("state 1", 8).due("count 4", 1).due("run 100", 1).due("count 7", 61);
        for (String wait : new String[] {"AWAIT 0", "JOIN 0"}) {
            rig = resumedOnce(after(58, "60th is " + wait).program(0, "LAUNCH 5 0", wait, "NOTE 7").program(5,
                    "DELAY 5"));
            rig.due("count 4", 1).due("run 1", 1).due("count 4", 0).due("run 100", 2).due("count 7", 62)
                    .due("state 0", 8);
        }
    }

    private static void theSixtiethBeginsAChild() {
        Rig rig = resumedOnce(after(59, "60th is LAUNCH").program(0, "LAUNCH 5 0", "ASK").program(5, "YIELD"));
        rig.due("count 4", 2).due("run 1", 1).due("about 1 4", 1).due("count 7", 61).due("state 0", 4);
        rig.due("run 1", 1).due("state 0", 12).due("run 100", 1).due("state 0", 8);
    }

    private static void theSixtiethEntersAFrame() {
        for (String action : new String[] {"TRY 5 9", "AFTER 5 9", "SHIELD 5", "AFTER 9 5"}) {
            Rig rig = resumedOnce(after(59, "60th is " + action).program(0, action).program(5, "ASK"));
            rig.due("about 0 4", 2).due("count 4", 1).due("run 100", 1).due("count 7", 61).due("state 0", 8);
        }
        for (String action : new String[] {"TRY 9 9", "AFTER 9 9", "SHIELD 9"}) {
            resumedOnce(after(59, "60th is " + action).program(0, action)).due("state 0", 8).due("count 4", 0);
        }
    }

    private static void theSixtiethThrows() {
        Rig rig = resumedOnce(after(58, "60th is caught").program(0, "TRY 5 6").program(5, "THROW 44").program(6,
                "ASK"));
        int caughtAt = 3 * 14 + 6;
        rig.due("noted " + caughtAt, 144).due("count 2", caughtAt + 1).due("about 0 4", 2).due("count 4", 1);
        rig.due("run 100", 1).due("noted " + (caughtAt + 1), 1).due("state 0", 8);
        rig = resumedOnce(after(58, "60th is kept").program(0, "AFTER 5 6").program(5, "THROW 44").program(6, "ASK"));
        rig.due("about 0 4", 2).due("state 0", 4).due("run 100", 1).due("state 0", 10);
        resumedOnce(after(59, "60th ends the body").program(0, "THROW 44", "NOTE 1")).due("state 0", 10)
                .due("count 4", 0);
        resumedOnce(after(59, "60th is left").program(0, "RETURN 4", "NOTE 1")).due("result 0", 4).due("count 4", 0);
    }

    /** An ACTION that throws CANCELLED, 96 or 97 instead is one of the 60. */
    private static void whatIsThrownInsteadIsOne() {
        Rig rig = after(57, "CANCELLED instead").program(0, "CANCEL -1", "AFTER 5 6").program(5, "YIELD")
                .program(6, "ASK");
        resumedOnce(rig).due("about 0 4", 2).due("count 4", 1).due("run 100", 1).due("state 0", 9);
        rig = after(58, "96 instead").program(0, "TRY 5 6").program(5, "LAUNCH 9 0").program(6, "ASK");
        rig.due("start 0", 0);
        for (int job = 1; job < 24; job++) {
            rig.due("start 9", job);
        }
        rig.due("run 1", 1).due("count 7", 60).due("about 0 4", 2).due("count 4", 24).due("run 100", 24)
                .due("count 7", 61);
        rig = after(54, "97 instead").program(0, "TRY 4 9").program(4, "TRY 5 9").program(5, "TRY 6 9")
                .program(6, "TRY 7 9");
        rig.program(7, "TRY 8 2").program(8, "SHIELD 9");
        resumedOnce(rig).due("about 0 4", 6).due("count 4", 1).due("run 100", 1).due("count 7", 67).due("state 0", 8);
    }

    /** What comes with THROW is no ACTION, so that a HANDLER of 60 ends in the same RESUMING. */
    private static void resumedWithAThrow() {
        Rig rig = after(60, "handler of 60").program(5, "TRY 6 0").program(6, "SCOPE 7").program(7, "THROW 3");
        rig.due("start 5", 0).due("run 2", 2).due("count 7", 3).due("run 1", 1).due("count 7", 63).due("state 0", 8);
        rig = after(60, "handler of 61").program(0, "ASK").program(5, "TRY 6 0").program(6, "SCOPE 7")
                .program(7, "THROW 3");
        rig.due("start 5", 0).due("run 3", 3).due("count 7", 63).due("state 0", 4).due("count 4", 1);
        rig.due("run 100", 1).due("count 7", 64).due("state 0", 8);
    }

    private static void eachResumingCountsAnew() {
        Rig rig = after(60, "120").program(5, "TRY 0 9", "TRY 0 9").due("start 5", 0);
        rig.due("run 1", 1).due("count 7", 60).due("run 1", 1).due("count 7", 120).due("run 1", 1).due("count 7", 122);
        rig.due("state 0", 8).due("run 100", 0);
        rig = after(59, "120 exactly").program(5, "TRY 0 9", "TRY 0 9").due("start 5", 0);
        rig.due("run 1", 1).due("count 7", 60).due("run 1", 1).due("count 7", 120).due("state 0", 8).due("run 100", 0);
        rig = after(59, "59, a wait, 60").program(0, "YIELD", "TRY 5 9")
                .program(5, "ASK", "ASK", "ASK", "ASK", "ASK", "ASK");
        rig.due("start 0", 0).due("run 1", 1).due("count 7", 60).due("run 1", 1).due("count 7", 67).due("state 0", 8);
    }

    /** It is READY and does not wait: a CAUSE leaves it where it is, and it goes on with GO. */
    private static void cancelledWhileItIsPutOff() {
        Rig rig = resumedOnce(after(59, "put off, then cancelled").program(0, "LAUNCH 9 0", "ASK", "JOIN 0", "ASK"));
        rig.due("cancel 0", 1).due("count 4", 2).due("run 100", 2).due("state 0", 9).due("count 7", 62);
        int notes = 3 * 14 + 7;
        rig.due("count 2", notes + 1).due("noted " + notes, 0);
    }

    private static void addedWhileItIsPutOff() {
        Rig rig = resumedOnce(after(60, "put off, then more").program(0, "NOTE 5")).program(0, "NOTE 6", "NOTE 7");
        rig.due("run 100", 1).due("count 7", 63).due("state 0", 8);
    }

    public static void main(String[] args) {
        fiftyNineSixtyAndOneMore();
        thePlaceIsTheEnd();
        theSixtiethWaits();
        theSixtiethBeginsAChild();
        theSixtiethEntersAFrame();
        theSixtiethThrows();
        whatIsThrownInsteadIsOne();
        resumedWithAThrow();
        eachResumingCountsAnew();
        cancelledWhileItIsPutOff();
        addedWhileItIsPutOff();
        Rig.end();
    }
}
