/** Terms: the rows that have an end: PROGRAMS, ACTIONS, JOBS, SLOTS, FRAMES, the READY row; and a SUM that wraps around. */
final class BoundaryRowsTest {
    private static final int LOW = Integer.MIN_VALUE;
    private static final int HIGH = Integer.MAX_VALUE;

    /** "PROGRAMS 0 .. 9 are rows of at most 8 ACTIONS": all ten are filled, and none runs over into the next. */
    private static void tenFullPrograms() {
        Rig rig = new Rig("ten full programs");
        for (int i = 1; i <= 8; i++) {
            for (int p = 0; p <= 9; p++) {
                rig.due("act " + p + " 14 " + (10 * p + i) + " 0", i);
            }
        }
        for (int p = 0; p <= 9; p++) {
            rig.refused("act " + p + " 14 99 0", Rig.STATE);
            rig.due("start " + p, p);
        }
        rig.due("run 100", 10).due("count 7", 10);
        for (int p = 0; p <= 9; p++) {
            rig.due("result " + p, 10 * p + 1).refused("act " + p + " 14 99 0", Rig.STATE);
        }
    }

    /** "while JOBS run, ACTIONS may be added": up to the eighth. */
    private static void theEighthIsAddedWhileItRuns() {
        Rig rig = new Rig("eighth added").program(0, "YIELD", "YIELD", "YIELD", "YIELD", "YIELD", "YIELD", "YIELD");
        rig.due("start 0", 0).due("run 7", 7).due("act 0 0 8 0", 8).refused("act 0 0 9 0", Rig.STATE);
        rig.due("run 100", 1).notes(8).due("count 7", 8).due("state 0", 8).refused("act 0 0 9 0", Rig.STATE);
    }

    /** "while JOBS run, ACTIONS may be added": to a PROGRAM that was empty when the JOB began. */
    private static void addedToAnEmptyProgram() {
        Rig rig = new Rig("empty when it began").due("start 0", 0).due("act 0 0 8 0", 1).due("run 100", 1).notes(8);
        rig = new Rig("empty when it ended").due("start 0", 0).due("run 100", 1).due("act 0 0 8 0", 1)
                .due("run 100", 0);
        rig.notes().due("state 0", 8).due("count 7", 0);
    }

    /** "JOBS 0 .. 23 are numbered as they begin", of whatever sort. */
    private static void twentyFourOfAllSorts() {
        Rig rig = new Rig("24 of all sorts").program(0, "LAUNCH 1 0", "SCOPE 2").program(1, "DELAY 9")
                .program(2, "LAUNCH 1 1", "SUPERVISOR 3");
        rig.program(3, "LAUNCH 1 2", "LIMIT 10 1");
        for (int first = 0; first < 21; first += 7) {
            rig.due("start 0", first).due("run 1", 1).due("count 0", first + 3).due("run 4", 4)
                    .due("count 0", first + 7);
            rig.due("run 100", 2 + 4 + 3).due("count 0", first + 7).due("count 1", first + 7).due("state " + first, 8);
            for (int i = 1; i < 7; i++) {
                rig.due("about " + (first + i) + " 0", first + (i - 1) / 2 * 2)
                        .due("about " + (first + i) + " 1", i % 2 == 1 ? 1 : 1 + i / 2);
            }
        }
        rig.due("start 1", 21).due("start 0", 22).due("run 2", 2).due("count 0", 24).due("about 23 0", 22);
        rig.due("run 100", 2).due("cause 22", 96).due("count 0", 24).due("count 1", 24).refused("start 1", Rig.STATE);
    }

    /** JOB 23 is one as the others are, and 24 is none, for every call. */
    private static void theLastJob() {
        Rig rig = new Rig("job 23").program(0, "RETURN 5").program(1, "DELAY 5");
        for (int job = 0; job < 23; job++) {
            rig.due("start 0", job);
        }
        rig.refused("state 23", Rig.ARGUMENT).due("start 1", 23).due("state 23", 4).due("run 100", 25)
                .due("result 23", 0);
        rig.due("state 23", 8).due("about 23 0", -1).due("about 23 8", 0).due("cancel 23", 0)
                .refused("cause 23", Rig.NO_ELEMENT);
        for (String call : new String[] {"cancel 24", "result 24", "state 24", "cause 24", "about 24 0"}) {
            rig.refused(call, Rig.ARGUMENT);
        }
    }

    private static void theLastJobIsCancelled() {
        Rig rig = new Rig("job 23 is cancelled").program(1, "DELAY 5");
        for (int job = 0; job < 24; job++) {
            rig.due("start 1", job);
        }
        rig.due("run 24", 24).due("cancel 23", 1).due("cause 23", 0).due("count 4", 1).due("count 6", 23);
        rig.due("run 100", 24).due("state 23", 9).due("state 22", 8);
    }

    /** "a SUM and SLOTS 0 .. 2, 0 and empty at first": whatever the parent has. */
    private static void newOnesBeginEmpty(String action) {
        Rig rig = new Rig("empty at first: " + action)
                .program(0, "TRY 1 9", "LAUNCH 9 0", "LAUNCH 9 1", "LAUNCH 9 2", action);
        rig.program(1, "RETURN 77").program(2, "YIELD").due("start 0", 0).due("run 1", 1).due("about 0 3", 77);
        for (int what = 0; what <= 2; what++) {
            rig.due("about 0 " + (5 + what), action.startsWith("LAUNCH") && what == 1 ? 4 : 1 + what);
            rig.due("about 4 " + (5 + what), -1);
        }
        rig.due("about 4 2", 0).due("about 4 3", 0).due("about 4 4", 1).due("about 4 8", 0)
                .refused("cause 4", Rig.NO_ELEMENT);
    }

    /** SLOTS 0 .. 2: each holds its own JOB, and an empty one lies between full ones. */
    private static void threeSlots() {
        Rig rig = new Rig("three slots")
                .program(0, "LAUNCH 1 2", "LAUNCH 2 0", "LAUNCH 3 1", "AWAIT 2", "YIELD", "AWAIT 0", "YIELD",
                "AWAIT 1");
        rig.program(1, "RETURN 100").program(2, "RETURN 20").program(3, "RETURN 3");
        rig.due("start 0", 0).due("run 4", 4).due("about 0 3", 100).due("run 1", 1).due("about 0 3", 100);
        rig.due("run 1", 1).due("about 0 3", 120).due("run 100", 1).due("result 0", 123);
    }

    /** "4, 5 and 6 of an empty SLOT do nothing": each of the three, with the others full. */
    private static void oneEmptySlot(int empty) {
        int one = (empty + 1) % 3;
        int other = (empty + 2) % 3;
        Rig rig = new Rig("slot " + empty + " is empty").program(0, "LAUNCH 1 " + one, "LAUNCH 1 " + other);
        rig.program(0, "AWAIT " + empty, "JOIN " + empty, "CANCEL " + empty, "NOTE 4")
                .program(1, "DELAY 5", "RETURN 6");
        rig.due("start 0", 0).due("run 1", 1).notes(4).due("state 0", 12).due("count 7", 6);
        rig.due("run 100", 4).due("result 0", 0).due("result 1", 6).due("result 2", 6)
                .due("about 0 " + (5 + empty), -1);
    }

    /** "a SUM (an int)": it wraps around, by whatever is added. */
    private static void sumsWrapAround() {
        Rig rig = new Rig("down").program(0, "TRY 1 9", "RETURN -1").program(1, "RETURN " + LOW).runAll()
                .due("result 0", HIGH);
        for (String wait : new String[] {"SCOPE 1", "SUPERVISOR 1", "LIMIT 9 1"}) {
            rig = new Rig("wrap by " + wait).program(0, wait, wait, "RETURN 3").program(1, "RETURN " + HIGH).runAll();
            rig.due("result 0", 1).due("result 1", HIGH);
        }
        rig = new Rig("wrap by await").program(0, "LAUNCH 1 0", "AWAIT 0", "AWAIT 0").program(1, "RETURN " + LOW)
                .runAll();
        rig.due("result 0", 0).due("about 0 3", 0).due("result 1", LOW);
    }

    /** "A 7th FRAME of a JOB": six fit, whatever their sorts; those that have gone leave room; each JOB has its own six. */
    private static void sixFramesFit() {
        Rig rig = new Rig("six again and again").program(0, "TRY 1 9", "AFTER 1 1", "SHIELD 1", "LAUNCH 1 0", "NOTE 1")
                .program(1, "SHIELD 2");
        rig.program(2, "AFTER 3 3").program(3, "TRY 4 9").program(4, "SHIELD 5").program(5, "YIELD");
        rig.due("start 0", 0).due("run 1", 1).due("about 0 4", 6).due("run 100", 8 + 3).notes(1).due("state 0", 8)
                .due("state 1", 8);
        rig = new Rig("own six").program(0, "TRY 1 9").program(1, "TRY 2 9").program(2, "TRY 3 9").program(3, "TRY 4 9")
                .program(4, "TRY 5 9");
        rig.program(5, "SCOPE 6", "RETURN 1").program(6, "TRY 1 9").due("start 0", 0).due("run 2", 2);
        rig.due("about 0 4", 6).due("about 1 4", 6).due("about 2 4", 1).notes();
    }

    /** The 97 is thrown at the sixth FRAME, of whatever sort, and what is left of its PROGRAM is not done. */
    private static void theSeventhIsThrownAtTheSixth() {
        for (String sixth : new String[] {"TRY 5 8", "AFTER 5 8", "SHIELD 5"}) {
            Rig rig = new Rig("97 at " + sixth).program(0, "TRY 1 9", "NOTE 6").program(1, "TRY 2 9")
                    .program(2, "TRY 3 9").program(3, "TRY 4 7");
            rig.program(4, sixth, "NOTE 4").program(5, "TRY 9 9", "NOTE 5").program(7, "NOTE 7").program(8, "NOTE 8")
                    .runAll();
            if (sixth.startsWith("TRY")) {
                rig.notes(197, 8, 4, 6);
            } else if (sixth.startsWith("AFTER")) {
                rig.notes(8, 197, 7, 6);
            } else {
                rig.notes(197, 7, 6);
            }
        }
    }

    /** A HANDLER and a LAST are FRAMES, too: in the sixth place they have no room for another. */
    private static void handlerAndLastInTheSixthPlace() {
        for (String sixth : new String[] {"TRY 5 6", "AFTER 5 6"}) {
            Rig rig = new Rig("sixth by " + sixth).program(0, "TRY 1 9").program(1, "TRY 2 9").program(2, "TRY 3 9")
                    .program(3, "TRY 4 9");
            rig.program(4, sixth).program(5, "THROW 2").program(6, "YIELD", "TRY 9 9", "NOTE 6").due("start 0", 0)
                    .due("run 1", 1);
            rig.due("about 0 4", 6).due("run 1", 1).due("state 0", 8);
            if (sixth.startsWith("TRY")) {
                rig.notes(102, 197);
            } else {
                rig.notes(197);
            }
        }
    }

    /** "A JOB is SHIELDED if one of its FRAMES is a SHIELD": in any place. */
    private static void oneShieldInAnyPlace() {
        for (int place = 1; place <= 6; place++) {
            Rig rig = new Rig("shield is frame " + place).program(5, "DELAY 5", "NOTE 1").program(9, "NOTE 9");
            for (int p = 0; p < 5; p++) {
                rig.program(p, p + 1 == place ? "SHIELD " + (p + 1) : "AFTER " + (p + 1) + " 8");
            }
            rig.due("start 0", 0).due("run 1", 1).due("about 0 4", 6).due("cancel 0", 1)
                    .due("count 4", place < 6 ? 0 : 1);
            rig.due("run 100", 1).due("count 3", place < 6 ? 5 : 0).due("count 2", place < 6 ? 1 : 0).due("state 0", 9);
        }
    }

    /** "one of its FRAMES is a SHIELD": none of another sort shields, and none that has gone. */
    private static void otherFramesDoNotShield() {
        String[] ways = {"SHIELD 9", "TRY 1 9", "AFTER 1 9", "AFTER 9 1", "AFTER 2 1", "TRY 2 1"};
        for (String way : ways) {
            Rig rig = new Rig("no shield: " + way).program(0, way, "DELAY 5", "NOTE 4").program(1, "DELAY 5", "NOTE 1")
                    .program(2, "THROW 3");
            rig.due("start 0", 0).due("run 1", 1).due("count 6", 1).due("cancel 0", 1).due("count 4", 1)
                    .due("count 6", 0);
            rig.due("run 100", 1).due("state 0", 9).due("count 3", 0);
            rig = new Rig("no shield after a cause: " + way).program(0, "CANCEL -1", way, "DELAY 5", "NOTE 4");
            rig.program(1, "DELAY 5", "NOTE 1").program(2, "THROW 3").runAll().due("state 0", 9).due("count 3", 0)
                    .due("count 5", 1);
        }
    }

    /** The READY row holds all 24, and each comes when those before it have come, lap after lap. */
    private static void twentyFourInTheReadyRow() {
        Rig rig = new Rig("24 ready");
        for (int p = 0; p < 10; p++) {
            rig.program(p, "NOTE " + p, "YIELD", "NOTE " + (10 + p), "YIELD", "YIELD", "RETURN " + p);
        }
        for (int job = 0; job < 24; job++) {
            rig.due("start " + job % 10, job).due("count 4", job + 1);
        }
        rig.due("run 24", 24).due("count 4", 24).due("run 24", 24).due("count 4", 24).due("run 24", 24)
                .due("count 4", 24);
        rig.due("run 23", 23).due("count 4", 1).due("state 22", 8).due("state 23", 4).due("run 100", 1)
                .due("count 4", 0);
        for (int k = 0; k < 48; k++) {
            rig.due("noted " + k, k < 24 ? k % 10 : 10 + (k - 24) % 10);
        }
    }

    /** The same with seven, which come round at other places, and with more that begin meanwhile. */
    private static void sevenInTheReadyRow() {
        Rig rig = new Rig("7 ready");
        for (int p = 0; p < 8; p++) {
            rig.program(p, "NOTE " + p, "YIELD", "NOTE " + p, "YIELD", "NOTE " + p, "YIELD", "NOTE " + p);
        }
        for (int job = 0; job < 7; job++) {
            rig.due("start " + job, job);
        }
        rig.due("run 21", 21).due("start 7", 7).due("count 4", 8).due("run 7", 7).due("count 4", 1).due("run 100", 4);
        for (int k = 0; k < 28; k++) {
            rig.due("noted " + k, k % 7);
        }
        for (int k = 28; k < 32; k++) {
            rig.due("noted " + k, 7);
        }
    }

    public static void main(String[] args) {
        tenFullPrograms();
        theEighthIsAddedWhileItRuns();
        addedToAnEmptyProgram();
        twentyFourOfAllSorts();
        theLastJob();
        theLastJobIsCancelled();
        for (String action : new String[] {"LAUNCH 2 1", "SCOPE 2", "SUPERVISOR 2", "LIMIT 9 2"}) {
            newOnesBeginEmpty(action);
        }
        threeSlots();
        for (int empty = 0; empty <= 2; empty++) {
            oneEmptySlot(empty);
        }
        sumsWrapAround();
        sixFramesFit();
        theSeventhIsThrownAtTheSixth();
        handlerAndLastInTheSixthPlace();
        oneShieldInAnyPlace();
        otherFramesDoNotShield();
        twentyFourInTheReadyRow();
        sevenInTheReadyRow();
        Rig.end();
    }
}
