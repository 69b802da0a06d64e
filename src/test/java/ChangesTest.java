import java.util.ArrayList;
import java.util.List;

/** Promises 41 to 44: count, undo, save and restore. */
public final class ChangesTest {
    private static final int NONE = OrchestraLibrary.NONE;
    private static final int STATE = OrchestraLibrary.STATE;
    private static final int NOTHING = OrchestraLibrary.NOTHING;
    private static final Checks CHECKS = new Checks("ChangesTest");

    public static void main(String[] args) {
        count();
        everyChangeIsUndone();
        errorsAreNoChanges();
        otherCallsAreNoChanges();
        eightChanges();
        saveAndRestore();
        theSnapshotStays();
        undoOneByOne();
        otherLoansComeBack();
        lostLoansAreNotOverdue();
        aFullLibrary();
        CHECKS.finish();
    }

    private static void due(String call, int got, int want) {
        CHECKS.due(call, got, want);
    }

    private static void dueAll(String what, Replay x, List<Integer> before) {
        CHECKS.holds(what, x.print().equals(before));
    }

    private static void count() {
        OrchestraLibrary x = new OrchestraLibrary();
        x.edition(0, 5, 4);
        x.derive(0);
        x.buy(0, 0, 10);
        x.buy(1, 5, 20);
        x.lend(0, 0, 0, 4, 0);
        x.lend(1, 1, 5, 6, 0);
        x.lend(2, 1, 5, 1, 0);
        x.pass(2);
        x.bring(0, 1, 2);
        x.bring(2, 1, 0);
        x.append('a');
        int[] counts = {2, 3, 2, 30, 21, 7, 2, 108, 2, 8, 1};
        for (int what = 0; what < 11; what++) {
            due("count " + what, x.count(what), counts[what]);
        }
        due("count -1", x.count(-1), NONE);
        due("count 11", x.count(11), NONE);
    }

    private static void everyChangeIsUndone() {
        Replay x = new Replay();
        List<Integer> fresh = x.print();
        x.call("edition", 1, 9, 4);
        dueUndone(x, fresh, 0);
        x.call("edition", 1, 9, 4);
        List<Integer> before = x.print();
        x.call("derive", 0);
        dueUndone(x, before, 1);
        x.call("derive", 0);
        x.call("bow", 0, 0, 3, 3);
        before = x.print();
        x.call("cut", 0, 2, 4);
        dueUndone(x, before, 3);
        x.call("insert", 0, 2, 4, 1);
        dueUndone(x, before, 3);
        x.call("rework", 0, 9, 1);
        dueUndone(x, before, 3);
        x.call("tempo", 0, 9, 700);
        dueUndone(x, before, 3);
        x.call("seat", 5, 9);
        dueUndone(x, before, 3);
        x.call("buy", 0, 5, 9);
        dueUndone(x, before, 3);
        x.call("bow", 0, 3, 9, 1);
        dueUndone(x, before, 3);
        x.call("copyBowings", 0, 1, 0, 0);
        dueUndone(x, before, 3);
        x.call("pass", 5);
        dueUndone(x, before, 3);
        x.call("buy", 0, 5, 9);
        x.call("seat", 5, 4);
        before = x.print();
        x.call("lend", 0, 0, 5, 2, 0);
        dueUndone(x, before, 5);
        x.call("lendAll", 0, 0, 3);
        dueUndone(x, before, 5);
        x.readText("t0:1=300;l5:0.5*1/9");
        dueUndone(x, before, 5);
        x.call("lend", 0, 0, 5, 2, 0);
        x.call("pass", 3);
        before = x.print();
        x.call("bring", 0, 1, 1);
        dueUndone(x, before, 7);
    }

    private static void dueUndone(Replay x, List<Integer> before, int left) {
        CHECKS.holds("the change is seen", !x.print().equals(before));
        due("undo", x.call("undo"), left);
        dueAll("all is as before", x, before);
    }

    private static void errorsAreNoChanges() {
        Replay x = new Replay();
        x.call("edition", 0, 3, 3);
        x.call("buy", 0, 0, 1);
        List<Integer> before = x.print();
        x.call("edition", 0, 3, 3);
        x.call("derive", 9);
        x.call("cut", 0, 1, 1);
        x.call("insert", 0, 0, 1, 1);
        x.call("rework", 0, 1, 1);
        x.call("tempo", 0, 1, 1);
        x.call("seat", 0, 99);
        x.call("buy", 0, 0, 30);
        x.call("bow", 0, 0, 1, 9);
        x.call("copyBowings", 0, 0, 0, 0);
        x.call("lend", 0, 0, 0, 2, 2);
        x.call("lendAll", 0, 0, 0);
        x.call("bring", 0, 1, 1);
        x.call("pass", 0);
        x.readText("t0:1=300;t0:1=1");
        x.readText("t0:1=300;");
        due("no changes", x.call("count", 9), 2);
        dueAll("unchanged", x, before);
    }

    private static void otherCallsAreNoChanges() {
        Replay x = new Replay();
        x.call("edition", 0, 3, 3);
        x.call("box", 0, 0, 3);
        x.call("put", 0, 0, 0, 0);
        x.call("likeBox", 0, 1);
        x.call("append", 'c');
        x.call("save");
        for (String name : new String[] {"length", "pace", "needs", "copied", "overdue"}) {
            x.call(name, 0);
        }
        for (String name : new String[] {"ofEdition", "barAt", "loan", "borrower"}) {
            x.call(name, 0, 1);
        }
        for (String name : new String[] {"bar", "seconds", "stock", "compare", "look"}) {
            x.call(name, 0, 1, 1);
        }
        for (String name : new String[] {"faultPosition", "failed", "refusal"}) {
            x.call(name);
        }
        x.call("carry", 0, 1, 0);
        x.call("bowing", 0, 0, 1);
        x.call("difference", 0, 0, 0, 0);
        due("one change", x.call("count", 9), 1);
        x.call("tempo", 0, 1, 0);
        due("also if nothing is different", x.call("count", 9), 2);
        x.call("bow", 0, 0, 1, 0);
        x.call("seat", 0, 0);
        due("also if nothing is different", x.call("count", 9), 4);
        x.call("derive", 0);
        x.call("copyBowings", 0, 1, 0, 0);
        due("also if nothing is copied", x.call("count", 9), 6);
    }

    /** Changes of each kind in a row, undone in a row. */
    private static void undoOneByOne() {
        Replay x = new Replay();
        x.call("edition", 0, 9, 4);
        x.call("derive", 0);
        for (int round = 0; round < 2; round++) {
            List<List<Integer>> prints = new ArrayList<>();
            for (int i = 0; i < 8; i++) {
                prints.add(x.print());
                changeOfKind(x, round * 8 + i);
            }
            prints.add(x.print());
            for (int i = 8; i > 0; i--) {
                CHECKS.holds("change " + (i - 1) + " is seen", !prints.get(i).equals(prints.get(i - 1)));
                due("undo", x.call("undo"), i - 1);
                dueAll("undone " + (i - 1), x, prints.get(i - 1));
            }
            x.call("buy", 0, 4, 9);
            x.call("seat", 4, 3);
        }
    }

    private static void changeOfKind(Replay x, int kind) {
        switch (kind) {
            case 0: x.call("cut", 1, 3, 4); break;
            case 1: x.call("insert", 1, 2, 3, 1); break;
            case 2: x.call("rework", 1, 9, 2); break;
            case 3: x.call("tempo", 1, 9, 500); break;
            case 4: x.call("bow", 1, 3, 9, 4); break;
            case 5: x.call("copyBowings", 1, 0, 3, 0); break;
            case 6: x.call("seat", 3, 3); break;
            case 7: x.call("buy", 1, 3, 3); break;
            case 8: x.call("lend", 3, 0, 4, 2, 2); break;
            case 9: x.call("lendAll", 3, 0, 2); break;
            case 10: x.call("pass", 5); break;
            case 11: x.call("bring", 0, 1, 1); break;
            case 12: x.call("edition", 2, 5, 5); break;
            case 13: x.call("derive", 2); break;
            case 14: x.readText("t2:1=600;w2:2=2"); break;
            default: x.call("tempo", 2, 1, 0); break;
        }
    }

    /** Loans and fees that came in place of those of the snapshot leave nothing behind. */
    private static void otherLoansComeBack() {
        Replay x = new Replay();
        x.call("edition", 0, 9, 4);
        x.call("derive", 0);
        x.call("buy", 1, 1, 9);
        x.call("buy", 0, 5, 9);
        x.call("save");
        List<Integer> before = x.print();
        x.call("lend", 2, 1, 1, 3, 7);
        x.call("pass", 9);
        x.call("bring", 0, 1, 1);
        x.call("restore");
        dueAll("as before the loan", x, before);
        for (int what = 0; what < 4; what++) {
            due("nothing left at the borrower", x.call("borrower", 2, what), 0);
        }
        due("no open loans", x.call("count", 2), 0);
        due("no fees", x.call("count", 7), 0);
        x.call("lend", 2, 1, 1, 3, 7);
        due("nothing lost in a new loan", x.call("borrower", 2, 1), 0);
        due("no fees in a new loan", x.call("loan", 0, 6), 0);
        x.call("pass", 9);
        x.call("bring", 0, 1, 1);
        List<Integer> lent = x.print();
        x.call("save");
        x.call("undo");
        x.call("undo");
        x.call("undo");
        dueAll("as before", x, before);
        due("no fees", x.call("count", 7), 0);
        x.call("lend", 4, 0, 5, 6, 100);
        due("borrower", x.call("loan", 0, 0), 4);
        due("fees", x.call("loan", 0, 6), 0);
        due("lost", x.call("borrower", 4, 1), 0);
        due("fees", x.call("count", 7), 0);
        x.call("restore");
        dueAll("as saved", x, lent);
        int[] loan = {2, 1, 1, 3, 1, 7, 54, 1};
        for (int what = 0; what < 8; what++) {
            due("loan " + what, x.call("loan", 0, what), loan[what]);
        }
        due("stock", x.call("stock", 0, 5, 2), 0);
        due("stock", x.call("stock", 1, 1, 2), 1);
    }

    private static void lostLoansAreNotOverdue() {
        OrchestraLibrary x = new OrchestraLibrary();
        x.edition(0, 9, 4);
        x.buy(0, 1, 9);
        x.save();
        x.lend(2, 0, 1, 3, 7);
        x.lend(2, 0, 1, 3, 1);
        x.restore();
        x.pass(9);
        due("no loan, none overdue", x.overdue(0), NOTHING);
        x.lend(2, 0, 1, 3, 7);
        x.pass(8);
        due("one loan", x.overdue(0), 0);
        due("one loan", x.overdue(1), NOTHING);
    }

    /** All filled to its end, as far as 512 calls reach: 6 editions of 99 bars, 180 copies of each, 20 overdue loans. */
    private static void aFullLibrary() {
        Replay x = new Replay();
        x.call("edition", 3, 99, 9);
        for (int bar = 1; bar <= 99; bar++) {
            x.call("tempo", 0, bar, 200 + bar);
        }
        for (int i = 0; i < 40; i++) {
            x.call("bow", 0, i % 4, 90 + i / 4, 4);
        }
        for (int edition = 1; edition < 6; edition++) {
            due("derive", x.call("derive", 0), edition);
            x.call("rework", edition, 99, 1);
        }
        for (int edition = 0; edition < 6; edition++) {
            for (int instrument = 0; instrument < 6; instrument++) {
                x.call("buy", edition, instrument, 30);
            }
        }
        for (int loan = 0; loan < 20; loan++) {
            due("lend", x.call("lend", 5, 5, loan % 6, 5, 20 - loan), loan);
        }
        int[] counts = {6, 20, 20, 1080, 980, 100, 0, 0, 0, 8, 0};
        for (int what = 0; what < 11; what++) {
            due("full count " + what, x.call("count", what), counts[what]);
        }
        List<Integer> before = x.print();
        due("save", x.call("save"), 6);
        x.call("pass", 999);
        for (int place = 0; place <= 20; place++) {
            due("overdue", x.call("overdue", place), place < 20 ? 19 - place : NOTHING);
        }
        due("bring", x.call("bring", 19, 0, 5), 350);
        due("undo", x.call("undo"), 7);
        due("undo", x.call("undo"), 6);
        dueAll("undone", x, before);
        x.call("tempo", 5, 99, 0);
        x.call("bow", 5, 3, 99, 0);
        due("last bar", x.call("ofEdition", 5, 5), 39);
        due("last bar", x.call("ofEdition", 5, 6), 98);
        due("restore", x.call("restore"), 6);
        dueAll("restored", x, before);
        due("last bar", x.call("difference", 0, 5, 0, 2), 99);
    }

    private static void eightChanges() {
        OrchestraLibrary x = new OrchestraLibrary();
        due("none", x.undo(), STATE);
        for (int i = 1; i <= 20; i++) {
            x.pass(1);
            due("changes", x.count(9), i < 8 ? i : 8);
        }
        for (int i = 7; i >= 5; i--) {
            due("undo", x.undo(), i);
        }
        due("day", x.count(8), 17);
        x.pass(100);
        due("changes", x.count(9), 6);
        due("undo the latest first", x.undo(), 5);
        due("day", x.count(8), 17);
        for (int i = 4; i >= 0; i--) {
            due("undo", x.undo(), i);
        }
        due("forgotten for good", x.undo(), STATE);
        due("day", x.count(8), 12);
    }

    private static void saveAndRestore() {
        Replay x = new Replay();
        due("no snapshot", x.call("restore"), STATE);
        due("save nothing", x.call("save"), 0);
        x.call("edition", 0, 9, 2);
        due("restore nothing", x.call("restore"), 0);
        due("no editions", x.call("ofEdition", 0, 0), NONE);
        x.call("edition", 2, 9, 2);
        x.call("derive", 0);
        x.call("tempo", 1, 3, 444);
        x.call("bow", 1, 2, 3, 4);
        x.call("buy", 1, 2, 7);
        x.call("seat", 2, 5);
        x.call("lend", 3, 1, 2, 3, 1);
        x.call("pass", 4);
        x.call("bring", 0, 1, 1);
        List<Integer> before = x.print();
        due("save", x.call("save"), 2);
        due("save keeps the changes", x.call("count", 9), 8);
        dueAll("save changes nothing", x, before);
        x.call("bring", 0, 0, 1);
        x.call("derive", 1);
        x.call("rework", 0, 1, 8);
        x.call("insert", 0, 0, 8, 8);
        x.call("seat", 2, 6);
        due("restore", x.call("restore"), 2);
        dueAll("as saved", x, before);
        due("no changes", x.call("count", 9), 0);
        due("no undo", x.call("undo"), STATE);
        due("greatest version", x.call("rework", 0, 1, 1), 1);
        x.call("insert", 0, 0, 1, 1);
        due("greatest origin", x.call("bar", 0, 1, 0), 10);
    }

    private static void theSnapshotStays() {
        OrchestraLibrary x = new OrchestraLibrary();
        x.edition(0, 9, 2);
        x.save();
        x.undo();
        due("undo leaves the snapshot", x.restore(), 1);
        x.cut(0, 1, 3);
        due("restore again", x.restore(), 1);
        due("bars", x.ofEdition(0, 1), 9);
        x.cut(0, 1, 3);
        x.derive(0);
        due("save anew", x.save(), 2);
        x.undo();
        x.undo();
        due("bars", x.ofEdition(0, 1), 9);
        due("in place of the earlier one", x.restore(), 2);
        due("bars", x.ofEdition(0, 1), 6);
        due("own tempo", x.tempo(1, 1, 0), NOTHING);
        due("undo after restore", x.undo(), 0);
        due("undo after restore", x.undo(), STATE);
    }
}
