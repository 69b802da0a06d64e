/** Promises 12 to 16: tempos and durations. */
public final class TemposTest {
    private static final int NONE = OrchestraLibrary.NONE;
    private static final int BAD = OrchestraLibrary.BAD;
    private static final int NOTHING = OrchestraLibrary.NOTHING;
    private static final Checks CHECKS = new Checks("TemposTest");

    public static void main(String[] args) {
        tempo();
        seconds();
        secondsOfOneBar();
        length();
        barAt();
        pace();
        CHECKS.finish();
    }

    private static void due(String call, int got, int want) {
        CHECKS.due(call, got, want);
    }

    private static void tempo() {
        OrchestraLibrary x = new OrchestraLibrary();
        due("no edition", x.tempo(0, 1, 500), NONE);
        x.edition(0, 3, 4);
        due("bar 0", x.tempo(0, 0, 500), NONE);
        due("bar 4", x.tempo(0, 4, 500), NONE);
        due("none ahead of bad", x.tempo(0, 4, 1), NONE);
        due("199", x.tempo(0, 1, 199), BAD);
        due("2501", x.tempo(0, 1, 2501), BAD);
        due("1", x.tempo(0, 1, 1), BAD);
        due("-1", x.tempo(0, 1, -1), BAD);
        due("200", x.tempo(0, 1, 200), NOTHING);
        due("2500", x.tempo(0, 1, 2500), 200);
        due("away", x.tempo(0, 1, 0), 2500);
        due("away again", x.tempo(0, 1, 0), NOTHING);
        due("NOTHING is a change", x.count(9), 5);
    }

    private static void seconds() {
        OrchestraLibrary x = new OrchestraLibrary();
        due("no edition", x.seconds(0, 1, 1), NONE);
        x.edition(0, 20, 7);
        due("from 0", x.seconds(0, 0, 1), NONE);
        due("to 21", x.seconds(0, 1, 21), NONE);
        due("from 21", x.seconds(0, 21, 1), NONE);
        due("reverse", x.seconds(0, 2, 1), BAD);
        x.tempo(0, 4, 1333);
        x.tempo(0, 9, 777);
        float sum = 0.0f;
        for (int bar = 1; bar <= 20; bar++) {
            float tenths = bar < 4 ? 1000 : bar < 9 ? 1333 : 777;
            sum += 7 * 60.0f / (tenths / 10.0f);
            CHECKS.dueBits("seconds to " + bar, x.seconds(0, 1, bar), sum);
        }
        float part = 0.0f;
        for (int bar = 6; bar <= 10; bar++) {
            part += 7 * 60.0f / ((bar < 9 ? 1333f : 777f) / 10.0f);
        }
        CHECKS.dueBits("the tempo ahead counts", x.seconds(0, 6, 10), part);
    }

    private static void secondsOfOneBar() {
        OrchestraLibrary x = new OrchestraLibrary();
        for (int beats = 1; beats <= 9; beats++) {
            for (int tenths = 200; tenths <= 2500; tenths++) {
                if (tenths % 200 == 0) {
                    x = new OrchestraLibrary();
                    x.edition(0, 1, beats);
                }
                x.tempo(0, 1, tenths);
                CHECKS.dueBits("bar of " + beats + " at " + tenths, x.seconds(0, 1, 1),
                    (float) beats * 60.0f / ((float) tenths / 10.0f));
            }
        }
    }

    private static void length() {
        OrchestraLibrary x = new OrchestraLibrary();
        due("no edition", x.length(0), NONE);
        x.edition(0, 99, 9);
        due("usual", x.length(0), 534);
        x.tempo(0, 1, 200);
        due("longest", x.length(0), 2673);
        x.edition(1, 1, 1);
        due("shorter than a second", x.length(1), 0);
        due("negative", x.length(-1), NONE);
    }

    private static void barAt() {
        OrchestraLibrary x = new OrchestraLibrary();
        due("no edition", x.barAt(0, 0), NONE);
        x.edition(0, 4, 1);
        x.tempo(0, 1, 600);
        due("none ahead of bad", x.barAt(1, -1), NONE);
        due("-1", x.barAt(0, -1), BAD);
        due("0", x.barAt(0, 0), 1);
        due("greater, not equal", x.barAt(0, 1), 2);
        due("3", x.barAt(0, 3), 4);
        due("4", x.barAt(0, 4), NOTHING);
        due("far", x.barAt(0, Integer.MAX_VALUE), NOTHING);
        x.tempo(0, 3, 1200);
        due("faster", x.barAt(0, 2), 3);
        due("end", x.barAt(0, 3), NOTHING);
    }

    private static void pace() {
        OrchestraLibrary x = new OrchestraLibrary();
        due("no edition", x.pace(0), NONE);
        x.edition(0, 5, 3);
        CHECKS.dueBits("usual", x.pace(0), 15 * 60.0f / (((((0.0f + 1.8f) + 1.8f) + 1.8f) + 1.8f) + 1.8f));
        x.tempo(0, 3, 1870);
        x.rework(0, 4, 8);
        float sum = 0.0f;
        sum += 180.0f / 100.0f;
        sum += 180.0f / 100.0f;
        sum += 180.0f / (1870f / 10.0f);
        sum += 480.0f / (1870f / 10.0f);
        sum += 180.0f / (1870f / 10.0f);
        CHECKS.dueBits("mixed", x.pace(0), 20.0f * 60.0f / sum);
    }
}
