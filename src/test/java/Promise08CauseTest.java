/** Promise 8: cause. */
final class Promise08CauseTest {
    private static void none() {
        Rig rig = new Rig("none").program(0, "YIELD");
        rig.due("start 0", 0).refused("cause 0", Rig.NO_ELEMENT).due("run 1", 1).refused("cause 0", Rig.NO_ELEMENT);
        rig.due("run 1", 1).due("state 0", 8).refused("cause 0", Rig.NO_ELEMENT);
    }

    private static void theFirstStays() {
        Rig rig = new Rig("cancelled, then failing").program(0, "CANCEL -1", "THROW 4");
        rig.due("start 0", 0).due("run 1", 1).due("cause 0", 0).due("state 0", 9).due("about 0 2", 1).notes();
        rig = new Rig("failing, then cancelled").program(0, "LAUNCH 1 0", "THROW 4").program(1, "SHIELD 2").program(2, "DELAY 3");
        rig.due("start 0", 0).due("run 2", 2).due("cause 0", 4).due("cancel 0", 0).due("cause 0", 4).due("about 0 2", 0);
        rig.due("run 9", 1).due("cause 0", 4).due("state 0", 10).due("cause 1", 0);
    }

    private static void ownFailuresOfTheRuntime() {
        Rig rig = new Rig("96").program(0, "LAUNCH 0 0").runAll().due("cause 23", 96).due("cause 0", 96).notes(296);
        rig = new Rig("97").program(0, "SHIELD 0").runAll().due("cause 0", 97).notes(297);
        rig = new Rig("98").program(0, "LIMIT 1 1").program(1, "DELAY 2").runAll().due("cause 1", 98).due("cause 0", 98).notes(298);
    }

    private static void noSuchJob() {
        Rig rig = new Rig("no such job").refused("cause 0", Rig.ARGUMENT).due("start 0", 0).refused("cause 0", Rig.NO_ELEMENT);
        for (int wrong : new int[] {-1, 1, 24, Integer.MIN_VALUE, Integer.MAX_VALUE}) {
            rig.refused("cause " + wrong, Rig.ARGUMENT);
        }
    }

    public static void main(String[] args) {
        none();
        theFirstStays();
        ownFailuresOfTheRuntime();
        noSuchJob();
        Rig.end();
    }
}
