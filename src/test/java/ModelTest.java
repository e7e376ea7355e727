import java.util.ArrayList;
import java.util.List;
import java.util.Random;

/** Random calls, in chosen mixtures, answered by the program and by the model alike. */
final class ModelTest {
    private static final int OBJECTS = 1500;
    private static final int CALLS = 512;
    /** As many calls as a look at 24 JOBS and 60 notes can take. */
    private static final int LOOKS = 8 + 1 + 60 + 1 + 24 * 12;
    /** ACTIONS that wait, begin JOBS and enter FRAMES stand more often than those that note. */
    private static final int[] OFTEN = {
        0, 1, 1, 2, 3, 3, 3, 4, 4, 5, 6, 7, 8, 9, 10, 10, 11, 11, 12, 12, 13, 14, 15};

    private final Random random;
    private final Face program = Face.of(new JobRuntime());
    private final Face model = new Model();
    private final List<String> calls = new ArrayList<>();

    private ModelTest(long seed) {
        random = new Random(seed);
    }

    private int between(int low, int high) {
        return low + random.nextInt(high - low + 1);
    }

    private String goodAction() {
        int action = OFTEN[random.nextInt(OFTEN.length)];
        int a = between(0, 9);
        int b = between(0, 9);
        switch (action) {
            case 1: case 10: a = random.nextBoolean() ? between(1, 5) : between(1, 50); break;
            case 3: b = between(0, 2); break;
            case 4: case 5: a = between(0, 2); break;
            case 6: a = between(-1, 2); break;
            case 7: a = between(1, 89); break;
            case 0: case 14: a = random.nextInt(50) == 0 ? random.nextInt() : between(0, 99); break;
            default: break;
        }
        return "act " + between(0, 9) + " " + action + " " + a + " " + b;
    }

    private String anyAction() {
        int[] edges = {-2, -1, 0, 1, 2, 3, 9, 10, 50, 51, 89, 90, Integer.MIN_VALUE, Integer.MAX_VALUE};
        return "act " + between(-1, 10) + " " + between(-1, 16) + " "
                + edges[random.nextInt(edges.length)] + " " + edges[random.nextInt(edges.length)];
    }

    private String anyCall(int starts) {
        int dice = random.nextInt(100);
        if (dice < 35) {
            return "run " + (random.nextInt(4) == 0 ? between(0, 100) : between(1, 3));
        }
        if (dice < 35 + starts) {
            return "start " + between(0, 9);
        }
        if (dice < 55) {
            return "cancel " + between(0, Math.max(0, model.count(0) - 1));
        }
        if (dice < 85) {
            return goodAction();
        }
        return dice < 92 ? anyLook() : oddCall();
    }

    private String anyLook() {
        int job = between(0, Math.max(0, model.count(0) - 1));
        String[] looks = {"state " + job, "cause " + job, "result " + job, "about " + job + " " + between(0, 8),
            "count " + between(0, 7), "noted " + between(0, 59)};
        return looks[random.nextInt(looks.length)];
    }

    private String oddCall() {
        int[] odd = {-1, 0, 5, 8, 9, 24, 59, 60, 61, 100, 101, Integer.MIN_VALUE, Integer.MAX_VALUE};
        int n = odd[random.nextInt(odd.length)];
        String[] wrong = {"run " + n, "start " + n, "cancel " + n, "result " + n, "state " + n, "cause " + n,
            "about " + n + " 0", "about 0 " + n, "noted " + n, "count " + n, anyAction()};
        return wrong[random.nextInt(wrong.length)];
    }

    private boolean agree(String call) {
        calls.add(call);
        String due = model.answer(call);
        String got = program.answer(call);
        if (!due.equals(got)) {
            System.out.println(calls + " answered " + got + ", due is " + due);
            return false;
        }
        return calls.size() > CALLS - LOOKS || looksTheSame(model.snapshot(), seenOnATwin());
    }

    private boolean looksTheSame(List<String> dueAfter, List<String> gotAfter) {
        for (int i = 0; i < dueAfter.size(); i++) {
            if (i >= gotAfter.size() || !dueAfter.get(i).equals(gotAfter.get(i))) {
                System.out.println(calls + " then " + (i < gotAfter.size() ? gotAfter.get(i) : "nothing")
                        + ", due is " + dueAfter.get(i));
                return false;
            }
        }
        return dueAfter.size() == gotAfter.size();
    }

    /** A twin is looked at, since looking at everything would use up the calls of the object itself. */
    private List<String> seenOnATwin() {
        Face twin = Face.of(new JobRuntime());
        for (String call : calls) {
            twin.answer(call);
        }
        return twin.snapshot();
    }

    private boolean runOne() {
        int written = between(0, 70);
        int starts = between(1, 15);
        int length = random.nextInt(20) == 0 ? CALLS : between(20, 140);
        for (int i = 0; i < length; i++) {
            if (!agree(i < written ? goodAction() : anyCall(starts))) {
                return false;
            }
        }
        return true;
    }

    public static void main(String[] args) {
        int objects = args.length > 0 ? Integer.parseInt(args[0]) : OBJECTS;
        int offset = args.length > 1 ? Integer.parseInt(args[1]) : 0;
        for (int seed = 0; seed < objects; seed++) {
            Rig.check("seed " + (seed + offset), new ModelTest(seed + offset).runOne());
        }
        Rig.end();
    }
}
