import java.util.ArrayList;
import java.util.Arrays;
import java.util.List;

/** A new object with PROGRAMS written in words, and a tally of the answers that were not due. */
final class Rig {
    static final String ARGUMENT = "throws.IllegalArgumentException";
    static final String STATE = "throws.IllegalStateException";
    static final String ARITHMETIC = "throws.ArithmeticException";
    static final String NO_ELEMENT = "throws.NoSuchElementException";

    private static final List<String> NAMES = Arrays.asList(
            "NOTE", "DELAY", "YIELD", "LAUNCH", "AWAIT", "JOIN", "CANCEL", "THROW",
            "SCOPE", "SUPERVISOR", "LIMIT", "TRY", "AFTER", "SHIELD", "RETURN", "ASK");
    /** An object is used for at most so many calls. */
    private static final int CALLS = 512;
    private static int checks = 0;
    private static int wrong = 0;

    private final Face face = Face.of(new JobRuntime());
    private final List<String> calls = new ArrayList<>();
    private final String about;

    Rig(String about) {
        this.about = about;
    }

    /** Each action is its name and its a, b; what is not written is 0. */
    Rig program(int p, String... actions) {
        for (String action : actions) {
            String[] words = action.split(" ");
            String a = words.length > 1 ? words[1] : "0";
            String b = words.length > 2 ? words[2] : "0";
            number("act " + p + " " + NAMES.indexOf(words[0]) + " " + a + " " + b);
        }
        return this;
    }

    /** Starts a ROOT of PROGRAM 0 and runs until nothing is left to do. */
    Rig runAll() {
        number("start 0");
        number("run 100");
        return this;
    }

    Rig due(String call, int want) {
        return answers(call, Integer.toString(want));
    }

    Rig answers(String call, String want) {
        String got = answer(call);
        same(call + " answered " + got + ", due is " + want, got.equals(want));
        return this;
    }

    /** The call throws, and changes nothing that can be seen. */
    Rig refused(String call, String want) {
        List<String> before = seenOnATwin();
        answers(call, want);
        same(call + " changed something", before.equals(seenOnATwin()));
        return this;
    }

    /** These and no others have been noted. */
    Rig notes(int... want) {
        int[] got = new int[Math.min(60, number("count 2"))];
        for (int k = 0; k < got.length; k++) {
            got[k] = number("noted " + k);
        }
        same("noted are " + Arrays.toString(got) + ", due are " + Arrays.toString(want), Arrays.equals(got, want));
        return this;
    }

    private String answer(String call) {
        calls.add(call);
        if (calls.size() == CALLS + 1) {
            same("the test makes more calls than an object is used for", false);
        }
        return face.answer(call);
    }

    private int number(String call) {
        String got = answer(call);
        boolean threw = got.startsWith("throws.");
        if (threw) {
            same(call + " answered " + got, false);
        }
        return threw ? 0 : Integer.parseInt(got);
    }

    /** A twin is looked at, since looking at everything would use up the calls of the object itself. */
    private List<String> seenOnATwin() {
        Face twin = Face.of(new JobRuntime());
        for (String call : calls) {
            twin.answer(call);
        }
        List<String> seen = twin.snapshot();
        same("the twin is looked at too often", calls.size() + seen.size() + 2 <= CALLS);
        return seen;
    }

    void same(String what, boolean holds) {
        check(about + ": " + what, holds);
    }

    static void check(String what, boolean holds) {
        checks++;
        if (!holds) {
            wrong++;
            System.out.println(what);
        }
    }

    static void end() {
        if (wrong > 0 || checks == 0) {
            System.out.println(wrong + " of " + checks + " answers are not as due");
            System.exit(1);
        }
    }
}
