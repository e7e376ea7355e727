import java.util.Arrays;
import java.util.List;

/** A new object with PROGRAMS written in words, and a tally of the answers that were not due. */
final class Rig {
    static final String ARGUMENT = "throws.IllegalArgumentException";
    static final String STATE = "throws.IllegalStateException";
    static final String ARITHMETIC = "throws.ArithmeticException";
    static final String NO_ELEMENT = "throws.NoSuchElementException";

    private static final List<String> NAMES = Arrays.asList(
            "NOTE", "DELAY", "YIELD", "LAUNCH", "AWAIT", "JOIN", "CANCEL", "THROW",
            "SCOPE", "SUPERVISOR", "LIMIT", "TRY", "AFTER", "SHIELD", "RETURN", "ASK");
    private static int checks = 0;
    private static int wrong = 0;

    final Face face = Face.of(new JobRuntime());
    private final String about;

    Rig(String about) {
        this.about = about;
    }

    /** Each action is its name and its a, b; what is not written is 0. */
    Rig program(int p, String... actions) {
        for (String action : actions) {
            String[] words = action.split(" ");
            int a = words.length > 1 ? Integer.parseInt(words[1]) : 0;
            int b = words.length > 2 ? Integer.parseInt(words[2]) : 0;
            face.act(p, NAMES.indexOf(words[0]), a, b);
        }
        return this;
    }

    /** Starts a ROOT of PROGRAM 0 and runs until nothing is left to do. */
    Rig runAll() {
        face.start(0);
        face.run(100);
        return this;
    }

    Rig due(String call, int want) {
        return answers(call, Integer.toString(want));
    }

    Rig answers(String call, String want) {
        String got = face.answer(call);
        same(call + " answered " + got + ", due is " + want, got.equals(want));
        return this;
    }

    /** The call throws, and changes nothing that can be seen. */
    Rig refused(String call, String want) {
        List<String> before = face.snapshot();
        answers(call, want);
        same(call + " changed something", before.equals(face.snapshot()));
        return this;
    }

    /** These and no others have been noted. */
    Rig notes(int... want) {
        int[] got = new int[Math.min(60, face.count(2))];
        for (int k = 0; k < got.length; k++) {
            got[k] = face.noted(k);
        }
        same("noted are " + Arrays.toString(got) + ", due are " + Arrays.toString(want), Arrays.equals(got, want));
        return this;
    }

    void same(String what, boolean holds) {
        check(about + ": " + what, holds);
    }

    static void check(String what, boolean holds) {
        checks++;
        if (!holds) {
            wrong++;
            System.out.println(what);
        }
    }

    static void end() {
        if (wrong > 0 || checks == 0) {
            System.out.println(wrong + " of " + checks + " answers are not as due");
            System.exit(1);
        }
    }
}
