/** Promise 1: a new object has empty PROGRAMS and no JOBS. */
final class Promise01NewObjectTest {
    private static void nothingIsThere() {
        Rig rig = new Rig("a new object");
        for (int what = 0; what <= 7; what++) {
            rig.due("count " + what, 0);
        }
        rig.notes().refused("noted 0", Rig.NO_ELEMENT).refused("state 0", Rig.ARGUMENT);
        rig.due("run 100", 0).due("count 5", 0);
    }

    private static void everyProgramIsEmpty() {
        Rig rig = new Rig("empty programs");
        for (int p = 0; p <= 9; p++) {
            rig.due("start " + p, p);
        }
        rig.due("run 100", 10).due("count 1", 10).due("count 7", 0);
        for (int p = 0; p <= 9; p++) {
            rig.due("result " + p, 0).due("act " + p + " 0 1 0", 1);
        }
    }

    private static void objectsAreApart() {
        Rig one = new Rig("one of two objects").program(0, "NOTE 5").runAll();
        Rig other = new Rig("the other object");
        one.due("count 0", 1);
        other.due("count 0", 0).due("act 0 0 1 0", 1).notes();
    }

    public static void main(String[] args) {
        nothingIsThere();
        everyProgramIsEmpty();
        objectsAreApart();
        Rig.end();
    }
}
