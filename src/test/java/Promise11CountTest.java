/** Promise 11: count. */
final class Promise11CountTest {
    private static void counts(Rig rig, int... due) {
        for (int what = 0; what < due.length; what++) {
            rig.due("count " + what, due[what]);
        }
    }

    private static void all() {
        Rig rig = new Rig("all").program(0, "NOTE 1", "LAUNCH 1 0", "LIMIT 9 2", "NOTE 3").program(1, "DELAY 4", "NOTE 2");
        rig.program(2, "DELAY 5", "YIELD");
        counts(rig, 0, 0, 0, 0, 0, 0, 0, 0);
        rig.due("start 0", 0);
        counts(rig, 1, 0, 0, 0, 1, 0, 0, 0);
        rig.due("run 1", 1);
        counts(rig, 3, 0, 1, 0, 2, 1, 1, 3);
        rig.due("run 2", 2);
        counts(rig, 3, 0, 1, 0, 0, 3, 3, 5);
        rig.due("run 1", 1);
        counts(rig, 3, 1, 2, 4, 0, 4, 2, 6);
        rig.due("run 1", 1);
        counts(rig, 3, 1, 2, 5, 1, 5, 1, 7);
        rig.due("run 100", 2);
        counts(rig, 3, 3, 3, 5, 0, 7, 0, 8);
    }

    private static void timersThatAreLeft() {
        Rig rig = new Rig("left").program(0, "LIMIT 9 1").program(1, "SHIELD 2", "LAUNCH 3 0", "DELAY 7").program(2, "DELAY 2");
        rig.program(3, "DELAY 3");
        rig.due("start 0", 0).due("run 2", 2).due("count 6", 2).due("cancel 0", 1).due("count 6", 2).due("count 4", 0);
        rig.due("run 1", 1).due("count 3", 2).due("state 1", 13).due("count 6", 1).due("count 4", 1);
        rig.due("run 1", 1).due("count 6", 2).due("run 1", 1).due("count 3", 5).due("count 6", 0).due("run 9", 1);
        rig.due("count 3", 5).due("state 0", 9).due("state 2", 8);
    }

    private static void noOther() {
        Rig rig = new Rig("no other");
        for (int wrong : new int[] {-1, 8, Integer.MIN_VALUE, Integer.MAX_VALUE}) {
            rig.due("count " + wrong, -1);
        }
    }

    private static void notesBeyondTheKeptOnesCount() {
        Rig rig = new Rig("more notes").program(0, "NOTE 1", "NOTE 1", "NOTE 1", "NOTE 1", "NOTE 1", "NOTE 1", "NOTE 1", "NOTE 1");
        for (int i = 1; i <= 10; i++) {
            rig.due("start 0", i - 1).due("run 1", 1).due("count 2", 8 * i).due("count 7", 8 * i).due("count 5", i).due("count 1", i);
        }
    }

    public static void main(String[] args) {
        all();
        timersThatAreLeft();
        noOther();
        notesBeyondTheKeptOnesCount();
        Rig.end();
    }
}
