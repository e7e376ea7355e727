/** Promise 6: result tells the value of a COMPLETED JOB. */
final class Promise06ResultTest {
    private static void oneOfEach() {
        Rig rig = new Rig("result").program(0, "RETURN -5").program(1, "THROW 3").program(2, "CANCEL -1", "RETURN 4");
        rig.program(3, "DELAY 9").program(4, "LAUNCH 3 0", "RETURN 6").program(5, "CANCEL -1", "SHIELD 3");
        for (int p = 0; p < 6; p++) {
            rig.refused("result " + p, Rig.ARGUMENT).due("start " + p, p).refused("result " + p, Rig.STATE);
        }
        rig.due("run 7", 7).due("result 0", -5).refused("result 1", Rig.ARITHMETIC).refused("result 2", Rig.NO_ELEMENT);
        rig.refused("result 3", Rig.STATE).refused("result 4", Rig.STATE).refused("result 5", Rig.STATE);
        rig.due("run 100", 3).due("result 3", 0).due("result 4", 6).refused("result 5", Rig.NO_ELEMENT).due("result 6", 0);
    }

    private static void notFinishedWithAFailure() {
        Rig rig = new Rig("failing").program(0, "LAUNCH 1 0", "THROW 3").program(1, "SHIELD 2").program(2, "DELAY 3");
        rig.due("start 0", 0).due("run 2", 2).due("cause 0", 3).refused("result 0", Rig.STATE);
        rig.due("run 9", 1).refused("result 0", Rig.ARITHMETIC).refused("result 1", Rig.NO_ELEMENT);
    }

    private static void noSuchJob() {
        Rig rig = new Rig("no such job");
        rig.runAll();
        for (int wrong : new int[] {-1, 1, 23, 24, Integer.MIN_VALUE, Integer.MAX_VALUE}) {
            rig.refused("result " + wrong, Rig.ARGUMENT);
        }
        rig.due("result 0", 0);
    }

    public static void main(String[] args) {
        oneOfEach();
        notFinishedWithAFailure();
        noSuchJob();
        Rig.end();
    }
}
