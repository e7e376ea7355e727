/** Promises 2 to 11: the edges of each call, which exception comes first, and that what throws changes nothing. */
final class BoundaryCallsTest {
    private static final int LOW = Integer.MIN_VALUE;
    private static final int HIGH = Integer.MAX_VALUE;
    private static final String EIGHT = "NOTE 1,NOTE 2,NOTE 3,NOTE 4,NOTE 5,NOTE 6,NOTE 7,NOTE 8";

    /** An act for each range that promise 2 names, with one number just outside of it. */
    private static final String[] OUTSIDE = {
        "-1 0 0", "16 0 0", "1 0 0", "1 51 0", "3 -1 0", "3 10 0", "3 0 -1", "3 0 3", "4 -1 0", "4 3 0", "5 -1 0", "5 3 0",
        "6 -2 0", "6 3 0", "7 0 0", "7 90 0", "8 -1 0", "8 10 0", "9 -1 0", "9 10 0", "10 0 0", "10 51 0", "10 1 -1", "10 1 10",
        "11 -1 0", "11 10 0", "11 0 -1", "11 0 10", "12 -1 0", "12 10 0", "12 0 -1", "12 0 10", "13 -1 0", "13 10 0"};

    /** Promise 2 and "Of several exceptions the one is thrown that the heading of the call names first". */
    private static void aFullProgramAndAWrongNumber() {
        Rig rig = new Rig("full and wrong").program(0, EIGHT.split(","));
        for (String wrong : OUTSIDE) {
            rig.refused("act 0 " + wrong, Rig.ARGUMENT);
        }
        rig.refused("act -1 0 0 0", Rig.ARGUMENT).refused("act 10 0 0 0", Rig.ARGUMENT)
                .refused("act 0 0 0 0", Rig.STATE);
        rig.runAll().notes(1, 2, 3, 4, 5, 6, 7, 8);
    }

    /** "what throws changes nothing": the PROGRAM does what it did, and has room for as many as it had. */
    private static void refusedActsLeaveThePrograms() {
        Rig rig = new Rig("refused acts").program(0, "NOTE 1", "YIELD").due("start 0", 0).due("run 1", 1);
        for (String wrong : OUTSIDE) {
            rig.refused("act 0 " + wrong, Rig.ARGUMENT);
        }
        rig.due("act 0 0 2 0", 3).due("run 100", 1).notes(1, 2).due("count 7", 3);
    }

    /** Promise 2: "others any int": numbers that an ACTION does not use are of no effect. */
    private static void anyInt(int any) {
        String x = " " + any;
        Rig rig = new Rig("any int" + x)
                .program(0, "NOTE" + x + x, "YIELD" + x + x, "DELAY 1" + x, "AWAIT 0" + x, "JOIN 1" + x,
                "CANCEL 2" + x);
        rig.program(0, "SCOPE 1" + x, "SUPERVISOR 2" + x).program(1, "SHIELD 3" + x, "ASK" + x + x, "RETURN" + x + x);
        rig.program(3, "TRY 4 5").program(4, "THROW 7" + x);
        rig.runAll().notes(any, 107, 1).due("result 0", any).due("result 1", any).due("count 3", 1).due("count 0", 3);
    }

    /** Promise 3: "24 JOBS have begun", by whatever began them, FINISHED or not; "no such PROGRAM" comes first. */
    private static void startWithTwentyFour() {
        Rig rig = new Rig("24 by launch").program(0, "LAUNCH 0 0", "DELAY 9");
        rig.due("start 0", 0).due("run 22", 22).due("count 0", 23).due("start 9", 23);
        rig.refused("start 9", Rig.STATE).refused("start 0", Rig.STATE).refused("start -1", Rig.ARGUMENT)
                .refused("start 10", Rig.ARGUMENT);
        rig.due("run 100", 24).due("count 1", 24).refused("start 9", Rig.STATE).refused("start 10", Rig.ARGUMENT)
                .due("count 0", 24);
    }

    /** Promise 4: "1 if that is its CAUSE by this, else 0": each way to have one already, or to be FINISHED. */
    private static void cancelOfWhoHasACause() {
        Rig rig = new Rig("cancel twice").program(0, "LAUNCH 1 0", "SHIELD 2").program(1, "SHIELD 2")
                .program(2, "DELAY 9");
        rig.due("start 0", 0).due("run 2", 2).due("cancel 0", 1).due("cancel 0", 0).due("cancel 1", 0)
                .due("run 100", 2);
        rig.due("cancel 0", 0).due("cancel 1", 0).due("about 0 2", 0).due("about 1 2", 0);
        rig = new Rig("child first").program(0, "LAUNCH 1 0", "SHIELD 2").program(1, "SHIELD 2").program(2, "DELAY 9");
        rig.due("start 0", 0).due("run 2", 2).due("cancel 1", 1).due("cancel 0", 1).due("cancel 1", 0);
        rig = new Rig("completed").runAll().due("cancel 0", 0).due("state 0", 8).refused("cause 0", Rig.NO_ELEMENT)
                .due("count 4", 0);
    }

    /** Promise 6: values at both ends, and which exception each end of a JOB brings. */
    private static void resultsAtTheEnds() {
        Rig rig = new Rig("results").program(0, "RETURN " + LOW).program(1, "RETURN " + HIGH).program(2, "RETURN -1")
                .program(3, "THROW 1");
        rig.program(4, "CANCEL -1", "RETURN 3").program(5, "RETURN 0").due("start 0", 0).due("start 1", 1)
                .due("start 2", 2);
        rig.due("start 3", 3).due("start 4", 4).due("start 5", 5).refused("result 5", Rig.STATE)
                .refused("result 6", Rig.ARGUMENT);
        rig.due("run 100", 6).due("result 0", LOW).due("result 1", HIGH).due("result 2", -1)
                .refused("result 3", Rig.ARITHMETIC);
        rig.refused("result 4", Rig.NO_ELEMENT).due("result 5", 0).due("about 0 3", LOW).due("about 1 3", HIGH)
                .due("about 4 3", 3);
    }

    /** Promise 9: each what of a JOB that has just begun, and of one that has FINISHED; -1 and 9 are none. */
    private static void aboutAtTheEnds() {
        int[] begun = {-1, 0, 0, 0, 1, -1, -1, -1, 0};
        Rig rig = new Rig("about").program(0, "RETURN 6").due("start 0", 0);
        for (int what = 0; what <= 8; what++) {
            rig.due("about 0 " + what, begun[what]);
        }
        rig.due("run 1", 1);
        for (int what = 0; what <= 8; what++) {
            rig.due("about 0 " + what, what == 3 ? 6 : what == 4 ? 0 : begun[what]);
        }
        rig.refused("about 0 -1", Rig.ARGUMENT).refused("about 0 9", Rig.ARGUMENT).refused("about 1 -1", Rig.ARGUMENT);
    }

    private static Rig notedSoFar(String about, int notes) {
        Rig rig = new Rig(about).program(0, EIGHT.split(",")).program(1, "NOTE 1").program(4, "THROW 5");
        for (int job = 0; job < notes / 8 + notes % 8; job++) {
            rig.due("start " + (job < notes / 8 ? 0 : 1), job);
        }
        rig.due("run 100", notes / 8 + notes % 8).due("count 2", notes);
        return rig;
    }

    /** Promise 10: "the first 60 are kept": the 60th is, the 61st is not, whichever way they are noted. */
    private static void theSixtiethNote(String about, int due, String action) {
        Rig rig = notedSoFar("60th is " + about, 59).program(2, action).program(3, "NOTE 9");
        rig.due("start 2", 10).refused("noted 59", Rig.NO_ELEMENT).due("run 1", 1).due("noted 59", due).due("count 2", 60)
                .refused("noted 60", Rig.NO_ELEMENT);
        rig.due("start 3", 11).due("run 1", 1).due("noted 59", due).due("count 2", 61)
                .refused("noted 60", Rig.NO_ELEMENT);
        rig = notedSoFar("61st is " + about, 60).program(2, action);
        rig.due("start 2", 11).due("noted 59", 1).due("run 1", 1).due("noted 59", 1).due("noted 0", 1).due("count 2", 61);
        rig.refused("noted 60", Rig.NO_ELEMENT).refused("noted 61", Rig.NO_ELEMENT);
    }

    private static void notesAtTheEnds() {
        Rig rig = new Rig("notes").program(0, "NOTE " + LOW, "NOTE " + HIGH, "NOTE 0", "NOTE -1").runAll()
                .notes(LOW, HIGH, 0, -1);
        rig.refused("noted -1", Rig.NO_ELEMENT).refused("noted 4", Rig.NO_ELEMENT).refused("noted 59", Rig.NO_ELEMENT);
    }

    /** Promise 11: "Else -1", whatever the object has done. */
    private static void noOtherCounts() {
        Rig rig = new Rig("no other counts").program(0, "NOTE 1", "DELAY 1").runAll();
        for (int wrong : new int[] {-1, 8, 9, LOW, HIGH}) {
            rig.due("count " + wrong, -1);
        }
    }

    public static void main(String[] args) {
        aFullProgramAndAWrongNumber();
        refusedActsLeaveThePrograms();
        for (int any : new int[] {LOW, -1, 0, 1, 10, 51, HIGH}) {
            anyInt(any);
        }
        startWithTwentyFour();
        cancelOfWhoHasACause();
        resultsAtTheEnds();
        aboutAtTheEnds();
        theSixtiethNote("NOTE", 77, "NOTE 77");
        theSixtiethNote("ASK", 1, "ASK");
        theSixtiethNote("caught", 105, "TRY 4 5");
        theSixtiethNote("told", 205, "THROW 5");
        notesAtTheEnds();
        noOtherCounts();
        Rig.end();
    }
}
