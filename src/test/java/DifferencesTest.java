/** Promises 10 and 11: compare and difference. */
public final class DifferencesTest {
    private static final int NONE = OrchestraLibrary.NONE;
    private static final int BAD = OrchestraLibrary.BAD;
    private static final int NOTHING = OrchestraLibrary.NOTHING;
    private static final Checks CHECKS = new Checks("DifferencesTest");

    public static void main(String[] args) {
        codes();
        itself();
        kinds();
        runsAtBothEnds();
        reworkedRunsAreParted();
        nothingInCommon();
        CHECKS.finish();
    }

    private static void due(String call, int got, int want) {
        CHECKS.due(call, got, want);
    }

    private static void dueRun(OrchestraLibrary x, int one, int other, int index, int... want) {
        for (int what = 0; what < 4; what++) {
            String call = "difference(" + one + ", " + other + ", " + index + ", " + what + ")";
            due(call, x.difference(one, other, index, what), want[what]);
        }
    }

    private static void dueCompare(OrchestraLibrary x, int one, int other, int... want) {
        for (int what = 0; what < 5; what++) {
            due("compare(" + one + ", " + other + ", " + what + ")", x.compare(one, other, what), want[what]);
        }
        due("behind the last", x.difference(one, other, want[4], 0), NOTHING);
    }

    private static void codes() {
        OrchestraLibrary x = new OrchestraLibrary();
        due("compare", x.compare(0, 0, 0), NONE);
        x.edition(0, 3, 1);
        x.edition(1, 3, 1);
        due("works", x.compare(0, 1, 0), BAD);
        due("none ahead", x.compare(0, 1, 5), NONE);
        due("what -1", x.compare(0, 0, -1), NONE);
        due("other", x.compare(0, 2, 0), NONE);
        due("one", x.compare(-1, 0, 0), NONE);
        due("difference works", x.difference(0, 1, 0, 0), BAD);
        due("difference works far", x.difference(0, 1, 9, 0), BAD);
        due("index", x.difference(0, 1, -1, 0), NONE);
        due("what 4", x.difference(0, 1, 0, 4), NONE);
        due("what -1", x.difference(0, 0, 0, -1), NONE);
        due("what ahead of nothing", x.difference(0, 0, 500, 4), NONE);
        due("other", x.difference(0, 2, 0, 0), NONE);
        due("one", x.difference(2, 0, 0, 0), NONE);
        due("none", x.difference(0, 0, 0, 0), NOTHING);
        due("far", x.difference(0, 0, Integer.MAX_VALUE, 0), NOTHING);
    }

    private static void itself() {
        OrchestraLibrary x = new OrchestraLibrary();
        x.edition(0, 9, 1);
        x.rework(0, 3, 2);
        dueCompare(x, 0, 0, 9, 9, 0, 0, 0);
    }

    private static void kinds() {
        OrchestraLibrary x = new OrchestraLibrary();
        x.edition(0, 8, 1);
        x.derive(0);
        x.cut(1, 3, 4);
        x.insert(1, 2, 3, 1);
        x.rework(1, 6, 2);
        x.rework(0, 6, 2);
        dueCompare(x, 0, 1, 6, 4, 2, 3, 3);
        dueRun(x, 0, 1, 0, 1, 3, 2, 2);
        dueRun(x, 0, 1, 1, 2, 4, 3, 3);
        dueRun(x, 0, 1, 2, 3, 5, 6, 2);
        dueCompare(x, 1, 0, 6, 4, 3, 2, 3);
        dueRun(x, 1, 0, 0, 1, 3, 2, 3);
        dueRun(x, 1, 0, 1, 2, 5, 3, 2);
        dueRun(x, 1, 0, 2, 3, 6, 5, 2);
    }

    private static void runsAtBothEnds() {
        OrchestraLibrary x = new OrchestraLibrary();
        x.edition(0, 4, 1);
        x.derive(0);
        x.insert(0, 0, 1, 1);
        x.insert(0, 5, 2, 1);
        x.insert(1, 0, 2, 1);
        x.insert(1, 6, 1, 1);
        dueCompare(x, 0, 1, 4, 4, 3, 3, 4);
        dueRun(x, 0, 1, 0, 1, 1, 0, 1);
        dueRun(x, 0, 1, 1, 2, 1, 1, 2);
        dueRun(x, 0, 1, 2, 1, 6, 6, 2);
        dueRun(x, 0, 1, 3, 2, 7, 7, 1);
        x.cut(0, 1, 1);
        dueRun(x, 0, 1, 0, 2, 0, 1, 2);
    }

    private static void reworkedRunsAreParted() {
        OrchestraLibrary x = new OrchestraLibrary();
        x.edition(0, 9, 1);
        x.derive(0);
        for (int bar = 1; bar <= 9; bar++) {
            if (bar != 3) {
                x.rework(0, bar, 2);
            }
        }
        dueCompare(x, 0, 1, 9, 1, 0, 0, 2);
        dueRun(x, 0, 1, 0, 3, 1, 1, 2);
        dueRun(x, 0, 1, 1, 3, 4, 4, 6);
        x.cut(1, 6, 6);
        dueCompare(x, 0, 1, 8, 1, 1, 0, 4);
        dueRun(x, 0, 1, 1, 3, 4, 4, 2);
        dueRun(x, 0, 1, 2, 1, 6, 5, 1);
        dueRun(x, 0, 1, 3, 3, 7, 6, 3);
        x.insert(1, 7, 1, 1);
        dueCompare(x, 0, 1, 8, 1, 1, 1, 6);
        dueRun(x, 0, 1, 3, 3, 7, 6, 2);
        dueRun(x, 0, 1, 4, 2, 8, 8, 1);
        dueRun(x, 0, 1, 5, 3, 9, 9, 1);
    }

    private static void nothingInCommon() {
        OrchestraLibrary x = new OrchestraLibrary();
        x.edition(0, 49, 1);
        x.derive(0);
        x.insert(1, 0, 50, 1);
        x.cut(1, 51, 99);
        x.insert(0, 49, 50, 1);
        dueCompare(x, 0, 1, 0, 0, 99, 50, 2);
        dueRun(x, 0, 1, 0, 1, 1, 0, 99);
        dueRun(x, 0, 1, 1, 2, 99, 1, 50);
    }
}
