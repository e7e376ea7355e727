/** Promise 5: how FRAMES come and go, by their end and by what is thrown. */
final class Promise05FramesTest {
    private static Rig caughtOrNot(String about, String thrown) {
        Rig rig = new Rig(about).program(0, "TRY 1 2", "NOTE 9").program(1, "TRY 3 4", "NOTE 1").program(2, "NOTE 2");
        return rig.program(3, thrown, "NOTE 3").program(4, "THROW 20", "NOTE 4").runAll();
    }

    private static void tryCatchesFailuresAlone() {
        caughtOrNot("nothing thrown", "NOTE 7").notes(7, 3, 1, 9).due("state 0", 8);
        caughtOrNot("a failure", "THROW 10").notes(110, 120, 2, 9).due("state 0", 8).due("count 7", 6);
        Rig rig = new Rig("cancelled passes").program(0, "TRY 1 2").program(1, "CANCEL -1", "YIELD").program(2, "NOTE 2");
        rig.runAll().notes().due("state 0", 9);
    }

    private static void afterDoesBoth() {
        Rig rig = new Rig("after its end").program(0, "AFTER 1 2", "NOTE 3").program(1, "NOTE 1").program(2, "NOTE 2");
        rig.runAll().notes(1, 2, 3).due("state 0", 8);
        rig = new Rig("after a return").program(0, "AFTER 1 2", "NOTE 3").program(1, "RETURN 6", "NOTE 1").program(2, "NOTE 2");
        rig.runAll().notes(2, 3).due("result 0", 6);
        rig = new Rig("after a failure").program(0, "AFTER 1 2", "NOTE 3").program(1, "THROW 5").program(2, "NOTE 2");
        rig.runAll().notes(2, 205).due("cause 0", 5);
        rig = new Rig("after a cancel").program(0, "AFTER 1 2", "NOTE 3").program(1, "CANCEL -1", "YIELD").program(2, "NOTE 2");
        rig.runAll().notes(2).due("state 0", 9);
        rig = new Rig("what is kept is thrown at a try").program(0, "TRY 1 4", "NOTE 9").program(1, "AFTER 2 3");
        rig.program(2, "THROW 5").program(3, "NOTE 3").program(4, "NOTE 4").runAll().notes(3, 105, 4, 9);
    }

    private static void lastIsAFrameAsOthersAre() {
        Rig rig = new Rig("last waits").program(0, "AFTER 1 2", "NOTE 3").program(1, "THROW 5").program(2, "DELAY 4", "NOTE 2");
        rig.due("start 0", 0).due("run 1", 1).due("about 0 4", 2).due("state 0", 4);
        rig.due("run 1", 1).notes(2, 205).due("count 3", 4);
        rig = new Rig("last throws another").program(0, "TRY 1 4", "NOTE 9").program(1, "AFTER 2 3").program(2, "THROW 5");
        rig.program(3, "THROW 6").program(4, "NOTE 4").runAll().notes(106, 4, 9).due("about 0 2", 0);
        rig = new Rig("last returns").program(0, "AFTER 1 2", "NOTE 9").program(1, "THROW 5").program(2, "RETURN 3", "NOTE 2");
        rig.runAll().notes(205).due("about 0 3", 3);
        rig = new Rig("nothing is kept of an earlier one").program(0, "TRY 1 9", "AFTER 4 3", "NOTE 7");
        rig.program(1, "AFTER 2 3").program(2, "THROW 5").program(3, "NOTE 3").program(4, "NOTE 4");
        rig.runAll().notes(3, 105, 4, 3, 7).due("state 0", 8);
    }

    private static void thrownThroughHandlerShieldAndLast() {
        Rig rig = new Rig("through a shield").program(0, "SHIELD 1", "NOTE 9").program(1, "THROW 5", "NOTE 1");
        rig.runAll().notes(205);
        rig = new Rig("out of a handler").program(0, "TRY 1 2", "NOTE 9").program(1, "THROW 5").program(2, "THROW 6");
        rig.runAll().notes(105, 206).due("about 0 2", 0).due("cause 0", 6);
        rig = new Rig("after and after").program(0, "AFTER 1 2").program(1, "AFTER 3 4").program(2, "NOTE 2");
        rig.program(3, "THROW 5").program(4, "NOTE 4").runAll().notes(4, 2, 205);
    }

    /** The JOB has no CAUSE, so that it would go on if a FRAME held back what is thrown. */
    private static void cancelledThrownThrough(String frame, int... notes) {
        Rig rig = new Rig("cancelled in " + frame).program(0, "LAUNCH 5 0", "YIELD", frame, "NOTE 9");
        rig.program(1, "AWAIT 0", "NOTE 1").program(2, "NOTE 2").program(3, "THROW 5").program(5, "CANCEL -1");
        rig.runAll().notes(notes).due("state 0", 9).due("about 0 2", 0).due("count 5", 3);
    }

    private static void cancelledThrownThroughAll() {
        cancelledThrownThrough("AWAIT 0");
        cancelledThrownThrough("TRY 1 2");
        cancelledThrownThrough("TRY 3 1", 105);
        cancelledThrownThrough("SHIELD 1");
        cancelledThrownThrough("AFTER 1 2", 2);
        cancelledThrownThrough("AFTER 2 1", 2);
        cancelledThrownThrough("AFTER 3 1");
    }

    private static void shieldEnds() {
        Rig rig = new Rig("shield ends").program(0, "CANCEL -1", "AFTER 1 2").program(1, "SHIELD 3", "NOTE 1", "YIELD", "NOTE 8");
        rig.program(3, "YIELD", "AFTER 4 5").program(4, "YIELD", "NOTE 4").program(5, "YIELD", "NOTE 5").program(2, "NOTE 2", "YIELD");
        rig.program(2, "NOTE 7").runAll().notes(4, 5, 1, 2).due("state 0", 9);
        rig = new Rig("no shield in what comes last").program(0, "SHIELD 1", "DELAY 5", "NOTE 1").program(1, "NOTE 2");
        rig.due("start 0", 0).due("run 1", 1).due("cancel 0", 1).due("count 4", 1).due("run 9", 1).notes(2);
    }

    private static void emptyPrograms() {
        Rig rig = new Rig("empty programs").program(0, "TRY 9 9", "AFTER 9 9", "SHIELD 9", "SCOPE 9", "NOTE 1");
        rig.runAll().notes(1).due("count 7", 5).due("state 0", 8);
        rig = new Rig("empty handler and last").program(0, "TRY 1 9", "TRY 2 9", "NOTE 1").program(1, "THROW 3");
        rig.program(2, "AFTER 1 9").runAll().notes(103, 103, 1);
    }

    private static void sixFrames() {
        for (String action : new String[] {"TRY 6 8", "AFTER 6 8", "SHIELD 6"}) {
            Rig rig = new Rig("six frames by " + action).program(0, "TRY 1 9").program(1, "AFTER 2 9").program(2, "SHIELD 3");
            rig.program(3, "SHIELD 4").program(4, "TRY 5 7", "NOTE 4").program(5, "YIELD", action, "NOTE 5").program(6, "NOTE 6");
            rig.program(7, "NOTE 7").program(8, "NOTE 8");
            rig.due("start 0", 0).due("run 1", 1).due("about 0 4", 6).due("run 1", 1);
            rig.notes(197, 7, 4).due("state 0", 8).due("about 0 4", 0).due("count 7", 9);
        }
    }

    private static void theSixthBecomesLastOrHandler() {
        Rig rig = new Rig("the sixth goes over").program(0, "TRY 1 9").program(1, "TRY 2 9").program(2, "TRY 3 9");
        rig.program(3, "TRY 4 9").program(4, "TRY 5 6", "AFTER 5 6").program(5, "THROW 2").program(6, "YIELD", "NOTE 6");
        rig.due("start 0", 0).due("run 1", 1).due("about 0 4", 6).notes(102);
        rig.due("run 1", 1).due("about 0 4", 6).notes(102, 6).due("run 1", 1).notes(102, 6, 6, 102).due("state 0", 8);
    }

    public static void main(String[] args) {
        tryCatchesFailuresAlone();
        afterDoesBoth();
        lastIsAFrameAsOthersAre();
        thrownThroughHandlerShieldAndLast();
        cancelledThrownThroughAll();
        shieldEnds();
        emptyPrograms();
        sixFrames();
        theSixthBecomesLastOrHandler();
        Rig.end();
    }
}
