/** Promises 36 to 40: the input, reading, faults and reasons. */
public final class TextsTest {
    private static final int BAD = OrchestraLibrary.BAD;
    private static final int STATE = OrchestraLibrary.STATE;
    private static final int FULL = OrchestraLibrary.FULL;
    private static final int NOTHING = OrchestraLibrary.NOTHING;
    private static final Checks CHECKS = new Checks("TextsTest");

    public static void main(String[] args) {
        append();
        commands();
        faults();
        textsWithoutFault();
        allOrNone();
        aTextIsOneChange();
        failedKeeps();
        refusal();
        readEmptiesTheInput();
        CHECKS.finish();
    }

    private static void due(String call, int got, int want) {
        CHECKS.due(call, got, want);
    }

    private static void append() {
        OrchestraLibrary x = new OrchestraLibrary();
        due("31", x.append(31), BAD);
        due("127", x.append(127), BAD);
        due("-1", x.append(-1), BAD);
        due("char only", x.append(65536 + 65), BAD);
        for (int i = 1; i <= 60; i++) {
            due("append", x.append(i % 2 == 0 ? 32 : 126), i);
        }
        due("full", x.append(65), FULL);
        due("bad ahead of full", x.append(200), BAD);
        due("count", x.count(10), 60);
    }

    private static void commands() {
        OrchestraLibrary x = new OrchestraLibrary();
        x.edition(0, 9, 4);
        due("cut", Checks.readText(x, "c0:2-0003"), 1);
        due("bars", x.ofEdition(0, 1), 7);
        due("insert", Checks.readText(x, "i0:0+2*9"), 1);
        due("bars", x.ofEdition(0, 1), 9);
        due("beats", x.bar(0, 2, 2), 9);
        due("rework", Checks.readText(x, "w0:9=1"), 1);
        due("beats", x.bar(0, 9, 2), 1);
        due("version", x.bar(0, 9, 1), 1);
        due("tempo", Checks.readText(x, "t0:4=1234"), 1);
        due("tempo", x.bar(0, 4, 3), 1234);
        due("bow", Checks.readText(x, "b0.3:5=2"), 1);
        due("bowing", x.bowing(0, 3, 5), 2);
        x.buy(0, 4, 8);
        due("lend", Checks.readText(x, "l5:0.4*6/012"), 1);
        int[] loan = {5, 0, 4, 6, 6, 12, 0, 0};
        for (int what = 0; what < 8; what++) {
            due("loan " + what, x.loan(0, what), loan[what]);
        }
        due("bring", Checks.readText(x, "r0:4+1"), 1);
        due("out", x.loan(0, 4), 1);
        due("lost", x.stock(0, 4, 3), 1);
        due("good", x.stock(0, 4, 1), 6);
        x.derive(0);
        due("each number in its place", Checks.readText(x, "i1:2+3*4;c1:9-10;w1:8=7;t1:7=600;b1.2:3=4"), 5);
        due("bars", x.ofEdition(1, 1), 10);
        due("inserted", x.carry(1, 5, 0), NOTHING);
        due("behind those that are cut out", x.carry(1, 9, 0), 8);
        due("beats", x.bar(1, 8, 2), 7);
        due("tempo", x.bar(1, 7, 3), 600);
        due("bowing", x.bowing(1, 2, 3), 4);
        x.undo();
        due("several", Checks.readText(x, "t0:4=0;t0:1=200;b0.0:1=4;r0:1+0"), 4);
        due("in their order", x.loan(0, 4), 0);
        due("tempo taken away", x.bar(0, 4, 3), NOTHING);
        due("later ones see earlier ones", Checks.readText(x, "l0:0.4*7/5;r1:7+0"), 2);
    }

    private static void dueFault(String text, int position) {
        OrchestraLibrary x = new OrchestraLibrary();
        x.edition(0, 9, 4);
        due("read " + text, Checks.readText(x, text), BAD);
        due("faultPosition of " + text, x.faultPosition(), position);
        due("no change by " + text, x.count(9), 1);
        due("none failed in " + text, x.failed(), NOTHING);
        due("input after " + text, x.count(10), 0);
    }

    private static void faults() {
        dueFault("", 0);
        dueFault("x", 0);
        dueFault(" c0:1-1", 0);
        dueFault("C0:1-1", 0);
        dueFault(";", 0);
        dueFault("c", 1);
        dueFault("c00:1-1", 2);
        dueFault("c0:", 3);
        dueFault("c0:-", 3);
        dueFault("c0:1", 4);
        dueFault("c0:1+1", 4);
        dueFault("c0:12345-1", 7);
        dueFault("c0:1-", 5);
        dueFault("c0:1-12345", 9);
        dueFault("c0:1-1;", 7);
        dueFault("c0:1-1;;", 7);
        dueFault("c0:1-1 ", 6);
        dueFault("c0:1-1,c0:1-1", 6);
        dueFault("i0:1+1*", 7);
        dueFault("i0:1+1*12", 8);
        dueFault("i0:1*1", 4);
        dueFault("w0:1=", 5);
        dueFault("w0:1=12", 6);
        dueFault("t0:1=10000", 9);
        dueFault("t0.1=1", 2);
        dueFault("b0:1=1", 2);
        dueFault("b0.11:1=1", 4);
        dueFault("b0.1:1=11", 8);
        dueFault("l10:1.1*1/1", 2);
        dueFault("l1:1.1*1", 8);
        dueFault("l1:11.1*1/1", 4);
        dueFault("l1:1.1*1-1", 8);
        dueFault("r00000:1+1", 5);
        dueFault("r0:1", 4);
        dueFault("r0:1+", 5);
        dueFault("r0:1+00001", 9);
        dueFault("w0:1=2;w0:1=3;w", 15);
        dueFault("t0:1=/", 5);
        dueFault("t0:1=:", 5);
        dueFault("t0:1=0500;t0:1=0500;t0:1=0500;t0:1=0500;t0:1=0500;t0:1=0500;", 60);
    }

    private static void textsWithoutFault() {
        OrchestraLibrary x = new OrchestraLibrary();
        x.edition(0, 9, 4);
        due("before", x.faultPosition(), NOTHING);
        Checks.readText(x, "q");
        due("fault", x.faultPosition(), 0);
        due("failing", Checks.readText(x, "w9:9999=0"), STATE);
        due("no fault", x.faultPosition(), NOTHING);
        Checks.readText(x, "q");
        due("60 characters", Checks.readText(x, "t0:1=0500;t0:1=0600;t0:1=0700;t0:1=0800;t0:1=0900;t0:1=0990"), 6);
        due("tempo", x.bar(0, 1, 3), 990);
        due("no fault", x.faultPosition(), NOTHING);
        due("8 commands", Checks.readText(x, "w0:1=1;w0:1=2;w0:1=3;w0:1=4;w0:1=5;w0:1=6;w0:1=7;w0:1=8"), 8);
        due("version", x.bar(0, 1, 1), 8);
        x.undo();
        Checks.readText(x, "c0:1-1");
        for (int length = 0; length < 6; length++) {
            due("a shorter text than the one before", Checks.readText(x, "c0:1-1".substring(0, length)), BAD);
            due("its fault position", x.faultPosition(), length);
        }
        Checks.readText(x, "qq");
        x.undo();
        x.save();
        x.restore();
        due("undo and restore leave the fault position", x.faultPosition(), 0);
    }

    private static void allOrNone() {
        OrchestraLibrary x = new OrchestraLibrary();
        x.edition(0, 5, 4);
        x.derive(0);
        x.tempo(0, 1, 500);
        x.buy(1, 0, 3);
        due("fails at 3", Checks.readText(x, "w0:1=9;i0:0+1*1;l0:1.0*3/1;l0:1.0*1/1"), STATE);
        due("failed", x.failed(), 3);
        due("reason", x.refusal(), 1);
        due("beats", x.bar(0, 1, 2), 4);
        due("bars", x.ofEdition(0, 1), 5);
        due("tempo", x.bar(0, 1, 3), 500);
        due("loans", x.count(1), 0);
        due("in", x.stock(1, 0, 1), 3);
        due("no change", x.count(9), 4);
        due("greatest version", x.rework(0, 1, 9), 1);
        x.insert(0, 0, 1, 1);
        due("greatest origin", x.bar(0, 1, 0), 6);
        due("NONE fails", Checks.readText(x, "c1:1-9"), STATE);
        due("BAD fails", Checks.readText(x, "t0:1=1"), STATE);
        due("FULL fails", Checks.readText(x, "i0:0+99*1"), STATE);
        due("REFUSED fails", Checks.readText(x, "c1:1-1"), STATE);
        due("winds fail", Checks.readText(x, "b0.4:1=1"), STATE);
        due("NOTHING does not fail", Checks.readText(x, "t0:1=0;t0:2=0"), 2);
    }

    private static void aTextIsOneChange() {
        OrchestraLibrary x = new OrchestraLibrary();
        x.edition(0, 5, 4);
        due("two commands", Checks.readText(x, "w0:1=9;w0:2=8"), 2);
        due("changes", x.count(9), 2);
        due("undo", x.undo(), 1);
        due("first", x.bar(0, 1, 2), 4);
        due("second", x.bar(0, 2, 2), 4);
        for (int i = 0; i < 9; i++) {
            x.pass(1);
        }
        due("fails after many changes", Checks.readText(x, "w0:1=9;w0:9=8"), STATE);
        due("changes", x.count(9), 8);
        for (int i = 7; i >= 0; i--) {
            due("undo", x.undo(), i);
            due("day", x.count(8), i + 1);
        }
    }

    private static void failedKeeps() {
        OrchestraLibrary x = new OrchestraLibrary();
        x.edition(0, 5, 4);
        x.save();
        Checks.readText(x, "w0:1=9;w0:9=8");
        due("failed", x.failed(), 1);
        Checks.readText(x, "w0:1=9");
        due("read without failure", x.failed(), 1);
        Checks.readText(x, "?");
        due("read with a fault", x.failed(), 1);
        x.undo();
        due("undo", x.failed(), 1);
        x.restore();
        due("restore", x.failed(), 1);
        Checks.readText(x, "w1:1=9");
        due("latest", x.failed(), 0);
    }

    private static void refusal() {
        OrchestraLibrary x = new OrchestraLibrary();
        x.edition(0, 5, 4);
        x.save();
        due("none", x.refusal(), NOTHING);
        x.cut(0, 1, 5);
        due("bad is no refusal", x.refusal(), NOTHING);
        x.lend(0, 0, 0, 1, 1);
        due("call", x.refusal(), 1);
        x.buy(0, 0, 2);
        Checks.readText(x, "t0:1=300;w0:1=1");
        due("command of a text", x.refusal(), 4);
        x.lend(0, 0, 0, 1, 1);
        due("kept", x.refusal(), 4);
        Checks.readText(x, "r0:9+9");
        due("command of a text", x.refusal(), 5);
        x.lendAll(0, 0, 1);
        due("lendAll", x.refusal(), 6);
        x.undo();
        x.restore();
        due("undo and restore leave it", x.refusal(), 6);
    }

    private static void readEmptiesTheInput() {
        OrchestraLibrary x = new OrchestraLibrary();
        x.edition(0, 5, 4);
        x.append('w');
        due("no change", x.count(9), 1);
        x.undo();
        x.save();
        x.restore();
        due("undo and restore leave the input", x.count(10), 1);
        due("fault", x.read(), BAD);
        due("empty", x.count(10), 0);
        Checks.readText(x, "w0:1=1");
        due("failing empties", x.count(10), 0);
        x.edition(0, 5, 4);
        due("reads", Checks.readText(x, "w0:1=1"), 1);
        due("empty", x.count(10), 0);
        due("nothing is left to be read", x.read(), BAD);
        due("fault position", x.faultPosition(), 0);
    }
}
