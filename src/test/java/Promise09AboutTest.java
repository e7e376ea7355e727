/** Promise 9: about. */
final class Promise09AboutTest {
    private static void about(Rig rig, int job, int... due) {
        for (int what = 0; what < due.length; what++) {
            rig.due("about " + job + " " + what, due[what]);
        }
    }

    private static void everySort() {
        Rig rig = new Rig("sorts").program(0, "LAUNCH 1 1").program(1, "SCOPE 2").program(2, "SUPERVISOR 3").program(3, "LIMIT 9 4");
        rig.program(4, "LAUNCH 5 2", "RETURN 8").program(5, "AFTER 6 7").program(6, "TRY 8 7").program(8, "DELAY 3", "THROW 2");
        rig.program(7, "RETURN 3");
        rig.due("start 0", 0).due("run 6", 6);
        about(rig, 0, -1, 0, 0, 0, 0, -1, 1, -1, 1);
        about(rig, 1, 0, 1, 0, 0, 1, -1, -1, -1, 1);
        about(rig, 2, 1, 2, 0, 0, 1, -1, -1, -1, 1);
        about(rig, 3, 2, 3, 0, 0, 1, -1, -1, -1, 1);
        about(rig, 4, 3, 4, 0, 8, 0, -1, -1, 5, 1);
        about(rig, 5, 4, 1, 0, 0, 3, -1, -1, -1, 0);
        rig.due("run 1", 1);
        about(rig, 5, 4, 1, 0, 6, 0, -1, -1, -1, 0);
        about(rig, 4, 3, 4, 0, 8, 0, -1, -1, 5, 0);
        rig.due("run 100", 3);
        about(rig, 0, -1, 0, 0, 0, 0, -1, 1, -1, 0);
        about(rig, 1, 0, 1, 0, 8, 0, -1, -1, -1, 0);
    }

    private static void childrenAndSlots() {
        Rig rig = new Rig("children").program(0, "LAUNCH 1 0", "LAUNCH 2 0", "LAUNCH 3 1", "SCOPE 3").program(1, "YIELD");
        rig.program(2, "NOTE 1").program(3, "DELAY 2");
        rig.due("start 0", 0).due("about 0 8", 0).due("run 1", 1);
        about(rig, 0, -1, 0, 0, 0, 1, 2, 3, -1, 4);
        rig.due("run 2", 2).due("about 0 8", 3).due("run 3", 3).due("about 0 8", 2);
        rig.due("run 100", 3);
        about(rig, 0, -1, 0, 0, 0, 0, 2, 3, -1, 0);
    }

    private static void suppressed() {
        Rig rig = new Rig("suppressed").program(0, "CANCEL -1", "AFTER 1 2").program(1, "THROW 5").program(2, "CANCEL -1", "THROW 6");
        rig.runAll().due("about 0 2", 1).due("cause 0", 0);
    }

    private static void refusals() {
        Rig rig = new Rig("refusals").refused("about 0 0", Rig.ARGUMENT).due("start 0", 0);
        for (int wrong : new int[] {-1, 9, Integer.MIN_VALUE, Integer.MAX_VALUE}) {
            rig.refused("about 0 " + wrong, Rig.ARGUMENT);
        }
        for (int wrong : new int[] {-1, 1, 24, Integer.MIN_VALUE, Integer.MAX_VALUE}) {
            rig.refused("about " + wrong + " 0", Rig.ARGUMENT).refused("about " + wrong + " 9", Rig.ARGUMENT);
        }
    }

    public static void main(String[] args) {
        everySort();
        childrenAndSlots();
        suppressed();
        refusals();
        Rig.end();
    }
}
