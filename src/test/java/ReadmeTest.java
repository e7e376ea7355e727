/** The examples of README.md answer what stands beside them there. */
final class ReadmeTest {
    private static void due(String call, int got, int want) {
        Rig.check("README: " + call + " answered " + got + ", due is " + want, got == want);
    }

    private static void aChildIsAwaited() {
        JobRuntime x = new JobRuntime();
        x.act(0, 3, 1, 0);
        x.act(0, 4, 0, 0);
        x.act(0, 14, 5, 0);
        x.act(1, 1, 10, 0);
        x.act(1, 14, 7, 0);
        int root = x.start(0);
        due("run", x.run(100), 4);
        due("result", x.result(root), 12);
        due("count", x.count(3), 10);
    }

    private static void aSupervisorStandsBetween() {
        JobRuntime y = new JobRuntime();
        y.act(0, 9, 1, 0);
        y.act(1, 3, 2, 0);
        y.act(1, 1, 3, 0);
        y.act(1, 14, 8, 0);
        y.act(2, 7, 42, 0);
        y.start(0);
        y.run(100);
        due("state", y.state(2), 10);
        due("cause", y.cause(2), 42);
        due("noted", y.noted(0), 242);
        due("result", y.result(0), 8);
    }

    public static void main(String[] args) {
        aChildIsAwaited();
        aSupervisorStandsBetween();
        Rig.end();
    }
}
