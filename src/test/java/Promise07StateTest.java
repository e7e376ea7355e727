/** Promise 7: state. */
final class Promise07StateTest {
    private static void finished() {
        Rig rig = new Rig("finished").program(0, "NOTE 1").program(1, "CANCEL -1").program(2, "THROW 1");
        rig.due("start 0", 0).due("start 1", 1).due("start 2", 2).due("run 3", 3);
        rig.due("state 0", 8).due("state 1", 9).due("state 2", 10);
    }

    private static void notFinished() {
        Rig rig = new Rig("not finished").program(0, "LAUNCH 1 0", "YIELD").program(1, "SHIELD 2").program(2, "DELAY 9");
        rig.due("start 0", 0).due("state 0", 4).due("run 2", 2).due("state 0", 4).due("state 1", 4);
        rig.due("run 1", 1).due("state 0", 12).due("cancel 0", 1).due("state 0", 13).due("state 1", 5);
        rig.due("run 1", 1).due("state 0", 9).due("state 1", 9);
    }

    private static void withAFailure() {
        Rig rig = new Rig("failing").program(0, "LAUNCH 1 0", "LAUNCH 3 1", "SHIELD 2").program(1, "THROW 6").program(2, "DELAY 9");
        rig.program(3, "SHIELD 4").program(4, "DELAY 12");
        rig.due("start 0", 0).due("run 3", 3).due("state 0", 5).due("state 1", 10).due("run 1", 1).due("state 0", 13);
        rig.due("run 1", 1).due("state 0", 10).due("state 2", 9);
    }

    private static void noSuchJob() {
        Rig rig = new Rig("no such job").refused("state 0", Rig.ARGUMENT).due("start 0", 0).due("state 0", 4);
        for (int wrong : new int[] {-1, 1, 24, Integer.MIN_VALUE, Integer.MAX_VALUE}) {
            rig.refused("state " + wrong, Rig.ARGUMENT);
        }
    }

    public static void main(String[] args) {
        finished();
        notFinished();
        withAFailure();
        noSuchJob();
        Rig.end();
    }
}
