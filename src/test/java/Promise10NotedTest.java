/** Promise 10: noted; the first 60 are kept. */
final class Promise10NotedTest {
    private static void inTheirOrder() {
        Rig rig = new Rig("in order").program(0, "NOTE 5", "NOTE -1", "ASK", "TRY 1 9", "THROW 2").program(1, "THROW 3");
        rig.due("start 0", 0).refused("noted 0", Rig.NO_ELEMENT).due("run 1", 1);
        rig.due("noted 0", 5).due("noted 1", -1).due("noted 2", 1).due("noted 3", 103).due("noted 4", 202);
        rig.refused("noted 5", Rig.NO_ELEMENT).refused("noted -1", Rig.NO_ELEMENT);
        rig.refused("noted " + Integer.MIN_VALUE, Rig.NO_ELEMENT).refused("noted " + Integer.MAX_VALUE, Rig.NO_ELEMENT);
    }

    private static void sixtyAreKept() {
        Rig rig = new Rig("sixty").program(0, "NOTE 0", "NOTE 1", "NOTE 2", "NOTE 3", "NOTE 4", "NOTE 5", "NOTE 6", "NOTE 7");
        for (int i = 0; i < 7; i++) {
            rig.due("start 0", i);
        }
        rig.due("run 100", 7).due("count 2", 56).due("noted 55", 7).refused("noted 56", Rig.NO_ELEMENT);
        rig.due("start 0", 7).due("run 1", 1).due("count 2", 64);
        for (int k = 0; k < 60; k++) {
            rig.due("noted " + k, k % 8);
        }
        for (int k = 60; k < 65; k++) {
            rig.refused("noted " + k, Rig.NO_ELEMENT);
        }
    }

    public static void main(String[] args) {
        inTheirOrder();
        sixtyAreKept();
        Rig.end();
    }
}
