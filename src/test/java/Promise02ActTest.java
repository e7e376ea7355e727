/** Promise 2: act adds an ACTION, within the ranges of its a, b. */
final class Promise02ActTest {
    private static final int LOW = Integer.MIN_VALUE;
    private static final int HIGH = Integer.MAX_VALUE;

    /** The edges of a and of b are taken, what lies just outside is not. */
    private static void ranges(int action, int lowA, int highA, int lowB, int highB) {
        String at = "act 4 " + action + " ";
        Rig rig = new Rig("ranges of action " + action);
        rig.due(at + lowA + " " + lowB, 1).due(at + highA + " " + lowB, 2);
        rig.due(at + lowA + " " + highB, 3).due(at + highA + " " + highB, 4);
        if (lowA != LOW) {
            rig.refused(at + (lowA - 1) + " " + lowB, Rig.ARGUMENT).refused(at + LOW + " " + lowB, Rig.ARGUMENT);
            rig.refused(at + (highA + 1) + " " + lowB, Rig.ARGUMENT).refused(at + HIGH + " " + lowB, Rig.ARGUMENT);
        }
        if (lowB != LOW) {
            rig.refused(at + lowA + " " + (lowB - 1), Rig.ARGUMENT).refused(at + lowA + " " + LOW, Rig.ARGUMENT);
            rig.refused(at + lowA + " " + (highB + 1), Rig.ARGUMENT).refused(at + lowA + " " + HIGH, Rig.ARGUMENT);
        }
        rig.due(at + lowA + " " + lowB, 5);
    }

    private static void allRanges() {
        for (int any : new int[] {0, 2, 14, 15}) {
            ranges(any, LOW, HIGH, LOW, HIGH);
        }
        ranges(1, 1, 50, LOW, HIGH);
        ranges(3, 0, 9, 0, 2);
        ranges(4, 0, 2, LOW, HIGH);
        ranges(5, 0, 2, LOW, HIGH);
        ranges(6, -1, 2, LOW, HIGH);
        ranges(7, 1, 89, LOW, HIGH);
        ranges(8, 0, 9, LOW, HIGH);
        ranges(9, 0, 9, LOW, HIGH);
        ranges(10, 1, 50, 0, 9);
        ranges(11, 0, 9, 0, 9);
        ranges(12, 0, 9, 0, 9);
        ranges(13, 0, 9, LOW, HIGH);
    }

    private static void programAndAction() {
        Rig rig = new Rig("program and action");
        for (int wrong : new int[] {-1, 10, LOW, HIGH}) {
            rig.refused("act " + wrong + " 0 0 0", Rig.ARGUMENT);
        }
        for (int wrong : new int[] {-1, 16, LOW, HIGH}) {
            rig.refused("act 0 " + wrong + " 0 0", Rig.ARGUMENT);
        }
        rig.due("act 0 0 0 0", 1).due("act 9 0 0 0", 1);
    }

    private static void eightFillAProgram() {
        Rig rig = new Rig("a full program");
        for (int i = 1; i <= 8; i++) {
            rig.due("act 0 0 " + i + " 0", i);
        }
        rig.refused("act 0 0 9 0", Rig.STATE);
        rig.refused("act 0 16 9 0", Rig.ARGUMENT).refused("act 0 1 51 0", Rig.ARGUMENT);
        rig.due("act 1 0 9 0", 1);
        rig.runAll().notes(1, 2, 3, 4, 5, 6, 7, 8);
    }

    private static void addedWhileJobsRun() {
        Rig rig = new Rig("added while it waits").program(0, "DELAY 5").program(1, "TRY 2 3").program(2, "YIELD");
        rig.due("start 0", 0).due("start 1", 1).due("run 2", 2);
        rig.program(0, "NOTE 7").program(1, "NOTE 9").program(2, "NOTE 8");
        rig.due("run 100", 2).notes(8, 9, 7);
        rig.due("count 7", 6);
    }

    private static void addedAfterReturnAndEnd() {
        Rig rig = new Rig("added behind a return").program(0, "TRY 1 1", "YIELD").program(1, "RETURN 3");
        rig.due("start 0", 0).due("run 1", 1).due("about 0 4", 1);
        rig.program(1, "NOTE 1");
        rig.due("run 1", 1).due("result 0", 3).notes();
        rig.program(0, "NOTE 2");
        rig.due("run 100", 0).notes();
    }

    public static void main(String[] args) {
        allRanges();
        programAndAction();
        eightFillAProgram();
        addedWhileJobsRun();
        addedAfterReturnAndEnd();
        Rig.end();
    }
}
