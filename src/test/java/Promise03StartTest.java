/** Promise 3: start begins a ROOT. */
final class Promise03StartTest {
    private static void numbersAsTheyBegin() {
        Rig rig = new Rig("numbers").program(1, "LAUNCH 2 0", "SCOPE 2");
        rig.due("start 1", 0).due("count 4", 1).due("state 0", 4);
        rig.due("run 1", 1).due("count 0", 3).due("start 9", 3).due("count 4", 3);
        rig.due("about 3 0", -1).due("about 3 1", 0).due("about 3 4", 1).due("about 3 3", 0);
        rig.due("about 3 5", -1).due("about 3 6", -1).due("about 3 7", -1).due("about 3 8", 0);
        rig.refused("cause 3", Rig.NO_ELEMENT);
    }

    private static void readyInTheirOrder() {
        Rig rig = new Rig("order").program(0, "NOTE 1").program(1, "NOTE 2").program(2, "NOTE 3");
        rig.due("start 2", 0).due("start 0", 1).due("start 1", 2).notes();
        rig.due("run 2", 2).notes(3, 1);
        rig.due("run 2", 1).notes(3, 1, 2);
    }

    private static void noSuchProgram() {
        Rig rig = new Rig("no such program");
        for (int wrong : new int[] {-1, 10, Integer.MIN_VALUE, Integer.MAX_VALUE}) {
            rig.refused("start " + wrong, Rig.ARGUMENT);
        }
        rig.due("start 0", 0).due("start 9", 1);
    }

    private static void atMostTwentyFour() {
        Rig rig = new Rig("24 jobs");
        for (int i = 0; i < 24; i++) {
            rig.due("start 0", i);
        }
        rig.refused("start 0", Rig.STATE).refused("start 10", Rig.ARGUMENT);
        rig.due("run 100", 24).due("count 1", 24).refused("start 0", Rig.STATE);
    }

    public static void main(String[] args) {
        numbersAsTheyBegin();
        readyInTheirOrder();
        noSuchProgram();
        atMostTwentyFour();
        Rig.end();
    }
}
