import java.util.ArrayList;
import java.util.List;

/** The calls of the document's face, so that the program and the model can be asked alike. */
interface Face {
    int act(int p, int action, int a, int b);

    int start(int p);

    int cancel(int job);

    int run(int n);

    int result(int job);

    int state(int job);

    int cause(int job);

    int about(int job, int what);

    int noted(int k);

    int count(int what);

    static Face of(JobRuntime x) {
        return new Face() {
            @Override public int act(int p, int action, int a, int b) { return x.act(p, action, a, b); }

            @Override public int start(int p) { return x.start(p); }

            @Override public int cancel(int job) { return x.cancel(job); }

            @Override public int run(int n) { return x.run(n); }

            @Override public int result(int job) { return x.result(job); }

            @Override public int state(int job) { return x.state(job); }

            @Override public int cause(int job) { return x.cause(job); }

            @Override public int about(int job, int what) { return x.about(job, what); }

            @Override public int noted(int k) { return x.noted(k); }

            @Override public int count(int what) { return x.count(what); }
        };
    }

    /** What a call such as "about 0 3" answers: a number, or throws. and the exception's name. */
    default String answer(String call) {
        try {
            return Integer.toString(number(call));
        } catch (RuntimeException e) {
            return "throws." + e.getClass().getSimpleName();
        }
    }

    private int number(String call) {
        String[] words = call.split(" ");
        int[] n = new int[words.length - 1];
        for (int i = 0; i < n.length; i++) {
            n[i] = Integer.parseInt(words[i + 1]);
        }
        switch (words[0]) {
            case "act": return act(n[0], n[1], n[2], n[3]);
            case "start": return start(n[0]);
            case "cancel": return cancel(n[0]);
            case "run": return run(n[0]);
            case "result": return result(n[0]);
            case "state": return state(n[0]);
            case "cause": return cause(n[0]);
            case "about": return about(n[0], n[1]);
            case "noted": return noted(n[0]);
            case "count": return count(n[0]);
            default: throw new AssertionError("no such call: " + call);
        }
    }

    /** All that can be seen of an object. */
    default List<String> snapshot() {
        List<String> seen = new ArrayList<>();
        for (int what = 0; what <= 7; what++) {
            see(seen, "count " + what);
        }
        int notes = Math.min(60, count(2));
        for (int k = 0; k < notes; k++) {
            see(seen, "noted " + k);
        }
        int jobs = count(0);
        for (int job = 0; job < jobs; job++) {
            see(seen, "state " + job);
            see(seen, "cause " + job);
            see(seen, "result " + job);
            for (int what = 0; what <= 8; what++) {
                see(seen, "about " + job + " " + what);
            }
        }
        return seen;
    }

    private void see(List<String> seen, String call) {
        seen.add(call + " = " + answer(call));
    }
}
