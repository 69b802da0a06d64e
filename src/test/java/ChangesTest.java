/** Promises 41 to 44: count, undo, save and restore. */
public final class ChangesTest {
    private static final int NONE = OrchestraLibrary.NONE;
    private static final int STATE = OrchestraLibrary.STATE;
    private static final int NOTHING = OrchestraLibrary.NOTHING;
    private static final Checks CHECKS = new Checks("ChangesTest");

    public static void main(String[] args) {
        count();
        everyChangeIsUndone();
        errorsAreNoChanges();
        otherCallsAreNoChanges();
        eightChanges();
        saveAndRestore();
        theSnapshotStays();
        undoOneByOne();
        otherLoansComeBack();
        lostLoansAreNotOverdue();
        aFullLibrary();
        CHECKS.finish();
    }

    private static void due(String call, int got, int want) {
        CHECKS.due(call, got, want);
    }

    private static void count() {
        OrchestraLibrary x = new OrchestraLibrary();
        x.edition(0, 5, 4);
        x.derive(0);
        x.buy(0, 0, 10);
        x.buy(1, 5, 20);
        x.lend(0, 0, 0, 4, 0);
        x.lend(1, 1, 5, 6, 0);
        x.lend(2, 1, 5, 1, 0);
        x.pass(2);
        x.bring(0, 1, 2);
        x.bring(2, 1, 0);
        x.append('a');
        int[] counts = {2, 3, 2, 30, 21, 7, 2, 108, 2, 8, 1};
        for (int what = 0; what < 11; what++) {
            due("count " + what, x.count(what), counts[what]);
        }
        due("count -1", x.count(-1), NONE);
        due("count 11", x.count(11), NONE);
    }

    /** One number that tells nearly everything which undo brings back. */
    private static int print(OrchestraLibrary x) {
        int sum = 17;
        for (int what = 0; what <= 8; what++) {
            sum = sum * 31 + x.count(what);
        }
        for (int edition = 0; edition < 6; edition++) {
            for (int what = 0; what < 7; what++) {
                sum = sum * 31 + x.ofEdition(edition, what);
            }
            for (int bar = 1; bar <= x.ofEdition(edition, 1); bar++) {
                for (int what = 0; what < 5; what++) {
                    sum = sum * 31 + x.bar(edition, bar, what);
                }
                for (int instrument = 0; instrument < 4; instrument++) {
                    sum = sum * 31 + x.bowing(edition, instrument, bar);
                }
            }
        }
        for (int instrument = 0; instrument < 6; instrument++) {
            sum = sum * 31 + x.needs(instrument);
            for (int what = 0; what < 4; what++) {
                sum = sum * 31 + x.stock(0, instrument, what) + x.borrower(instrument, what);
            }
        }
        for (int loan = 0; loan < 20; loan++) {
            for (int what = 0; what < 8; what++) {
                sum = sum * 31 + x.loan(loan, what);
            }
        }
        return sum;
    }

    private static void everyChangeIsUndone() {
        OrchestraLibrary x = new OrchestraLibrary();
        int fresh = print(x);
        x.edition(1, 9, 4);
        dueUndone(x, fresh, 0);
        x.edition(1, 9, 4);
        int before = print(x);
        x.derive(0);
        dueUndone(x, before, 1);
        x.derive(0);
        x.bow(0, 0, 3, 3);
        before = print(x);
        x.cut(0, 2, 4);
        dueUndone(x, before, 3);
        x.insert(0, 2, 4, 1);
        dueUndone(x, before, 3);
        x.rework(0, 9, 1);
        dueUndone(x, before, 3);
        x.tempo(0, 9, 700);
        dueUndone(x, before, 3);
        x.seat(5, 9);
        dueUndone(x, before, 3);
        x.buy(0, 5, 9);
        dueUndone(x, before, 3);
        x.bow(0, 3, 9, 1);
        dueUndone(x, before, 3);
        x.copyBowings(0, 1, 0, 0);
        dueUndone(x, before, 3);
        x.pass(5);
        dueUndone(x, before, 3);
        x.buy(0, 5, 9);
        x.seat(5, 4);
        before = print(x);
        x.lend(0, 0, 5, 2, 0);
        dueUndone(x, before, 5);
        x.lendAll(0, 0, 3);
        dueUndone(x, before, 5);
        Checks.readText(x, "t0:1=300;l5:0.5*1/9");
        dueUndone(x, before, 5);
        x.lend(0, 0, 5, 2, 0);
        x.pass(3);
        before = print(x);
        x.bring(0, 1, 1);
        dueUndone(x, before, 7);
    }

    private static void dueUndone(OrchestraLibrary x, int before, int left) {
        CHECKS.holds("the change is seen", print(x) != before);
        due("undo", x.undo(), left);
        due("all is as before", print(x), before);
    }

    private static void errorsAreNoChanges() {
        OrchestraLibrary x = new OrchestraLibrary();
        x.edition(0, 3, 3);
        x.buy(0, 0, 1);
        int before = print(x);
        x.edition(0, 3, 3);
        x.derive(9);
        x.cut(0, 1, 1);
        x.insert(0, 0, 1, 1);
        x.rework(0, 1, 1);
        x.tempo(0, 1, 1);
        x.seat(0, 99);
        x.buy(0, 0, 30);
        x.bow(0, 0, 1, 9);
        x.copyBowings(0, 0, 0, 0);
        x.lend(0, 0, 0, 2, 2);
        x.lendAll(0, 0, 0);
        x.bring(0, 1, 1);
        x.pass(0);
        Checks.readText(x, "t0:1=300;t0:1=1");
        Checks.readText(x, "t0:1=300;");
        due("no changes", x.count(9), 2);
        due("unchanged", print(x), before);
    }

    private static void otherCallsAreNoChanges() {
        OrchestraLibrary x = new OrchestraLibrary();
        x.edition(0, 3, 3);
        x.box(0, 0, 3);
        x.put(0, 0, 0, 0);
        x.likeBox(0, 1);
        x.append('c');
        x.save();
        print(x);
        due("one change", x.count(9), 1);
        x.tempo(0, 1, 0);
        due("also if nothing is different", x.count(9), 2);
        x.bow(0, 0, 1, 0);
        x.seat(0, 0);
        due("also if nothing is different", x.count(9), 4);
        x.derive(0);
        x.copyBowings(0, 1, 0, 0);
        due("also if nothing is copied", x.count(9), 6);
    }

    /** Changes of each kind in a row, undone in a row. */
    private static void undoOneByOne() {
        OrchestraLibrary x = new OrchestraLibrary();
        x.edition(0, 9, 4);
        x.derive(0);
        int[] prints = new int[9];
        for (int round = 0; round < 2; round++) {
            for (int i = 0; i < 8; i++) {
                prints[i] = print(x);
                changeOfKind(x, round * 8 + i);
            }
            prints[8] = print(x);
            for (int i = 8; i > 0; i--) {
                CHECKS.holds("change " + (i - 1) + " is seen", prints[i] != prints[i - 1]);
                due("undo", x.undo(), i - 1);
                due("undone " + (i - 1), print(x), prints[i - 1]);
            }
            x.buy(0, 4, 9);
            x.seat(4, 3);
        }
    }

    private static void changeOfKind(OrchestraLibrary x, int kind) {
        switch (kind) {
            case 0: x.cut(1, 3, 4); break;
            case 1: x.insert(1, 2, 3, 1); break;
            case 2: x.rework(1, 9, 2); break;
            case 3: x.tempo(1, 9, 500); break;
            case 4: x.bow(1, 3, 9, 4); break;
            case 5: x.copyBowings(1, 0, 3, 0); break;
            case 6: x.seat(3, 3); break;
            case 7: x.buy(1, 3, 3); break;
            case 8: x.lend(3, 0, 4, 2, 2); break;
            case 9: x.lendAll(3, 0, 2); break;
            case 10: x.pass(5); break;
            case 11: x.bring(0, 1, 1); break;
            case 12: x.edition(2, 5, 5); break;
            case 13: x.derive(2); break;
            case 14: Checks.readText(x, "t2:1=600;w2:2=2"); break;
            default: x.tempo(2, 1, 0); break;
        }
    }

    /** Loans and fees that came in place of those of the snapshot leave nothing behind. */
    private static void otherLoansComeBack() {
        OrchestraLibrary x = new OrchestraLibrary();
        x.edition(0, 9, 4);
        x.derive(0);
        x.buy(1, 1, 9);
        x.buy(0, 5, 9);
        x.save();
        int before = print(x);
        x.lend(2, 1, 1, 3, 7);
        x.pass(9);
        x.bring(0, 1, 1);
        x.restore();
        due("as before the loan", print(x), before);
        for (int what = 0; what < 4; what++) {
            due("nothing left at the borrower", x.borrower(2, what), 0);
        }
        due("no open loans", x.count(2), 0);
        due("no fees", x.count(7), 0);
        x.lend(2, 1, 1, 3, 7);
        due("nothing lost in a new loan", x.borrower(2, 1), 0);
        due("no fees in a new loan", x.loan(0, 6), 0);
        x.pass(9);
        x.bring(0, 1, 1);
        int lent = print(x);
        x.save();
        x.undo();
        x.undo();
        x.undo();
        due("as before", print(x), before);
        due("no fees", x.count(7), 0);
        x.lend(4, 0, 5, 6, 100);
        due("borrower", x.loan(0, 0), 4);
        due("fees", x.loan(0, 6), 0);
        due("lost", x.borrower(4, 1), 0);
        due("fees", x.count(7), 0);
        x.restore();
        due("as saved", print(x), lent);
        int[] loan = {2, 1, 1, 3, 1, 7, 54, 1};
        for (int what = 0; what < 8; what++) {
            due("loan " + what, x.loan(0, what), loan[what]);
        }
        due("stock", x.stock(0, 5, 2), 0);
        due("stock", x.stock(1, 1, 2), 1);
    }

    private static void lostLoansAreNotOverdue() {
        OrchestraLibrary x = new OrchestraLibrary();
        x.edition(0, 9, 4);
        x.buy(0, 1, 9);
        x.save();
        x.lend(2, 0, 1, 3, 7);
        x.lend(2, 0, 1, 3, 1);
        x.restore();
        x.pass(9);
        due("no loan, none overdue", x.overdue(0), NOTHING);
        x.lend(2, 0, 1, 3, 7);
        x.pass(8);
        due("one loan", x.overdue(0), 0);
        due("one loan", x.overdue(1), NOTHING);
    }

    /** All rows filled to their end: 6 editions of 99 bars, 180 copies of each, 20 loans, all overdue. */
    private static void aFullLibrary() {
        OrchestraLibrary x = new OrchestraLibrary();
        x.edition(3, 99, 9);
        for (int bar = 1; bar <= 99; bar++) {
            x.tempo(0, bar, 200 + bar);
            for (int instrument = 0; instrument < 4; instrument++) {
                x.bow(0, instrument, bar, 4);
            }
        }
        for (int edition = 1; edition < 6; edition++) {
            due("derive", x.derive(0), edition);
            x.rework(edition, 99, 1);
        }
        for (int edition = 0; edition < 6; edition++) {
            for (int instrument = 0; instrument < 6; instrument++) {
                x.buy(edition, instrument, 30);
            }
        }
        for (int loan = 0; loan < 20; loan++) {
            due("lend", x.lend(5, 5, loan % 6, 5, 20 - loan), loan);
        }
        int[] counts = {6, 20, 20, 1080, 980, 100, 0, 0, 0, 8, 0};
        for (int what = 0; what < 11; what++) {
            due("full count " + what, x.count(what), counts[what]);
        }
        int before = print(x);
        due("save", x.save(), 6);
        x.pass(999);
        for (int place = 0; place <= 20; place++) {
            due("overdue", x.overdue(place), place < 20 ? 19 - place : NOTHING);
        }
        due("bring", x.bring(19, 0, 5), 350);
        due("undo", x.undo(), 7);
        due("undo", x.undo(), 6);
        due("undone", print(x), before);
        x.tempo(5, 99, 0);
        x.bow(5, 3, 99, 0);
        due("last bar", x.ofEdition(5, 5), 395);
        due("last bar", x.ofEdition(5, 6), 98);
        due("restore", x.restore(), 6);
        due("restored", print(x), before);
        due("last bar", x.difference(0, 5, 0, 2), 99);
    }

    private static void eightChanges() {
        OrchestraLibrary x = new OrchestraLibrary();
        due("none", x.undo(), STATE);
        for (int i = 1; i <= 20; i++) {
            x.pass(1);
            due("changes", x.count(9), i < 8 ? i : 8);
        }
        for (int i = 7; i >= 5; i--) {
            due("undo", x.undo(), i);
        }
        due("day", x.count(8), 17);
        x.pass(100);
        due("changes", x.count(9), 6);
        due("undo the latest first", x.undo(), 5);
        due("day", x.count(8), 17);
        for (int i = 4; i >= 0; i--) {
            due("undo", x.undo(), i);
        }
        due("forgotten for good", x.undo(), STATE);
        due("day", x.count(8), 12);
    }

    private static void saveAndRestore() {
        OrchestraLibrary x = new OrchestraLibrary();
        due("no snapshot", x.restore(), STATE);
        due("save nothing", x.save(), 0);
        x.edition(0, 9, 2);
        due("restore nothing", x.restore(), 0);
        due("no editions", x.ofEdition(0, 0), NONE);
        x.edition(2, 9, 2);
        x.derive(0);
        x.tempo(1, 3, 444);
        x.bow(1, 2, 3, 4);
        x.buy(1, 2, 7);
        x.seat(2, 5);
        x.lend(3, 1, 2, 3, 1);
        x.pass(4);
        x.bring(0, 1, 1);
        int before = print(x);
        due("save", x.save(), 2);
        due("save keeps the changes", x.count(9), 8);
        due("save changes nothing", print(x), before);
        x.bring(0, 0, 1);
        x.derive(1);
        x.rework(0, 1, 8);
        x.insert(0, 0, 8, 8);
        x.seat(2, 6);
        due("restore", x.restore(), 2);
        due("as saved", print(x), before);
        due("no changes", x.count(9), 0);
        due("no undo", x.undo(), STATE);
        due("greatest version", x.rework(0, 1, 1), 1);
        x.insert(0, 0, 1, 1);
        due("greatest origin", x.bar(0, 1, 0), 10);
    }

    private static void theSnapshotStays() {
        OrchestraLibrary x = new OrchestraLibrary();
        x.edition(0, 9, 2);
        x.save();
        x.undo();
        due("undo leaves the snapshot", x.restore(), 1);
        x.cut(0, 1, 3);
        due("restore again", x.restore(), 1);
        due("bars", x.ofEdition(0, 1), 9);
        x.cut(0, 1, 3);
        x.derive(0);
        due("save anew", x.save(), 2);
        x.undo();
        x.undo();
        due("bars", x.ofEdition(0, 1), 9);
        due("in place of the earlier one", x.restore(), 2);
        due("bars", x.ofEdition(0, 1), 6);
        due("own tempo", x.tempo(1, 1, 0), NOTHING);
        due("undo after restore", x.undo(), 0);
        due("undo after restore", x.undo(), STATE);
    }
}
