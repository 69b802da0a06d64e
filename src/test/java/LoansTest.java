/** Promises 25 to 31: loans, borrowers and days. */
public final class LoansTest {
    private static final int NONE = OrchestraLibrary.NONE;
    private static final int BAD = OrchestraLibrary.BAD;
    private static final int FULL = OrchestraLibrary.FULL;
    private static final int REFUSED = OrchestraLibrary.REFUSED;
    private static final int NOTHING = OrchestraLibrary.NOTHING;
    private static final Checks CHECKS = new Checks("LoansTest");

    public static void main(String[] args) {
        lendCodes();
        lendRefusals();
        lendAllCodes();
        lendAllRefusals();
        lendAllLends();
        bring();
        fees();
        loan();
        overdue();
        borrower();
        pass();
        CHECKS.finish();
    }

    private static void due(String call, int got, int want) {
        CHECKS.due(call, got, want);
    }

    /** An edition of two, with 30 copies for each instrument. */
    private static OrchestraLibrary prepared() {
        OrchestraLibrary x = new OrchestraLibrary();
        x.edition(0, 4, 4);
        x.derive(0);
        for (int instrument = 0; instrument < 6; instrument++) {
            x.buy(0, instrument, 30);
        }
        return x;
    }

    private static void lendCodes() {
        OrchestraLibrary x = prepared();
        due("borrower -1", x.lend(-1, 0, 0, 1, 1), NONE);
        due("borrower 6", x.lend(6, 0, 0, 1, 1), NONE);
        due("edition", x.lend(0, 2, 0, 1, 1), NONE);
        due("instrument", x.lend(0, 0, 6, 1, 1), NONE);
        due("instrument", x.lend(0, 0, -1, 0, 1), NONE);
        due("copies 0", x.lend(0, 0, 0, 0, 1), BAD);
        due("copies 31", x.lend(0, 0, 0, 31, 1), BAD);
        due("days -1", x.lend(0, 0, 0, 1, -1), BAD);
        due("days 1000", x.lend(0, 0, 0, 1, 1000), BAD);
        due("refusal", x.refusal(), NOTHING);
        due("first", x.lend(5, 0, 0, 30, 999), 0);
        due("second", x.lend(5, 0, 5, 1, 0), 1);
        due("in", x.stock(0, 0, 1), 0);
        due("out", x.stock(0, 0, 2), 30);
        due("count", x.count(1), 2);
    }

    private static void lendRefusals() {
        OrchestraLibrary x = prepared();
        due("none bought", x.lend(0, 1, 0, 1, 1), REFUSED);
        due("reason 1", x.refusal(), 1);
        due("29 of 30", x.lend(0, 0, 0, 29, 0), 0);
        due("2 of 1", x.lend(1, 0, 0, 2, 0), REFUSED);
        due("1 of 1", x.lend(1, 0, 0, 1, 5), 1);
        due("due today", x.lend(0, 0, 1, 1, 3), 2);
        x.pass(1);
        due("overdue", x.lend(0, 0, 1, 1, 3), REFUSED);
        due("reason 2", x.refusal(), 2);
        due("1 ahead of 2", x.lend(0, 0, 0, 1, 3), REFUSED);
        due("reason 1", x.refusal(), 1);
        due("another borrower", x.lend(2, 0, 1, 1, 3), 3);
        x.bring(0, 29, 0);
        due("closed ones are not overdue", x.lend(0, 0, 1, 1, 3), 4);
        for (int i = 5; i < 20; i++) {
            due("fill", x.lend(3, 0, 2, 1, 0), i);
        }
        due("20 loans", x.lend(4, 0, 2, 1, 0), REFUSED);
        due("reason 3", x.refusal(), 3);
        x.pass(1);
        due("2 ahead of 3", x.lend(3, 0, 2, 1, 0), REFUSED);
        due("reason 2", x.refusal(), 2);
        due("1 ahead of 3", x.lend(4, 0, 2, 16, 0), REFUSED);
        due("reason 1", x.refusal(), 1);
        x.bring(19, 1, 0);
        due("closed ones count", x.lend(4, 0, 2, 1, 0), REFUSED);
        due("reason 3", x.refusal(), 3);
    }

    private static void lendAllCodes() {
        OrchestraLibrary x = prepared();
        due("borrower", x.lendAll(6, 0, 1), NONE);
        due("borrower", x.lendAll(-1, 0, 1000), NONE);
        due("edition", x.lendAll(0, 2, 1), NONE);
        due("days -1", x.lendAll(0, 0, -1), BAD);
        due("days 1000", x.lendAll(0, 0, 1000), BAD);
        due("refusal", x.refusal(), NOTHING);
        due("no players", x.lendAll(0, 0, 1), REFUSED);
        due("reason 6", x.refusal(), 6);
        x.seat(0, 1);
        due("days 0", x.lendAll(0, 0, 0), 1);
        due("due today", x.loan(0, 5), 0);
        due("days 999", x.lendAll(0, 0, 999), 1);
        due("due", x.loan(1, 5), 999);
        x.seat(0, 0);
        due("no players any more", x.lendAll(0, 0, 1), REFUSED);
    }

    private static void lendAllRefusals() {
        OrchestraLibrary x = prepared();
        x.lend(0, 0, 5, 28, 0);
        x.pass(1);
        due("6 ahead of 2", x.lendAll(0, 0, 1), REFUSED);
        due("reason 6", x.refusal(), 6);
        x.seat(0, 20);
        due("1 for the first instrument", x.lendAll(1, 1, 1), REFUSED);
        due("reason 1", x.refusal(), 1);
        due("overdue", x.lendAll(0, 0, 1), REFUSED);
        due("reason 2", x.refusal(), 2);
        x.seat(5, 3);
        due("1 ahead of 2", x.lendAll(0, 0, 1), REFUSED);
        due("reason 1", x.refusal(), 1);
        due("1 for another", x.lendAll(1, 0, 1), REFUSED);
        due("reason 1", x.refusal(), 1);
        due("no loans made", x.count(1), 1);
        x.seat(5, 2);
        for (int i = 1; i <= 17; i++) {
            due("fill", x.lend(2, 0, 1, 1, 9), i);
        }
        x.seat(4, 1);
        due("3 loans for 2", x.lendAll(1, 0, 1), REFUSED);
        due("reason 3", x.refusal(), 3);
        due("none is made", x.count(1), 18);
        x.seat(4, 0);
        due("2 loans for 2", x.lendAll(1, 0, 1), 2);
        due("20", x.count(1), 20);
    }

    private static void lendAllLends() {
        OrchestraLibrary x = prepared();
        x.seat(5, 3);
        x.seat(1, 7);
        x.seat(3, 1);
        x.pass(10);
        due("loans", x.lendAll(4, 0, 90), 3);
        int[] instruments = {1, 3, 5};
        int[] copies = {4, 1, 3};
        for (int i = 0; i < 3; i++) {
            due("borrower", x.loan(i, 0), 4);
            due("edition", x.loan(i, 1), 0);
            due("instrument", x.loan(i, 2), instruments[i]);
            due("copies", x.loan(i, 3), copies[i]);
            due("out", x.loan(i, 4), copies[i]);
            due("due", x.loan(i, 5), 100);
            due("stock out", x.stock(0, instruments[i], 2), copies[i]);
        }
        due("no copy bought, no players", x.loan(3, 0), NONE);
        due("one change", x.undo(), 7);
        due("all undone", x.count(1), 0);
        due("nothing out", x.count(5), 0);
    }

    private static void bring() {
        OrchestraLibrary x = prepared();
        due("no loan", x.bring(0, 1, 0), NONE);
        x.lend(0, 0, 0, 10, 5);
        due("loan -1", x.bring(-1, 1, 0), NONE);
        due("good -1", x.bring(0, -1, 1), BAD);
        due("good 31", x.bring(0, 31, 0), BAD);
        due("bad -1", x.bring(0, 1, -1), BAD);
        due("bad 31", x.bring(0, 0, 31), BAD);
        due("both 0", x.bring(0, 0, 0), BAD);
        due("too many", x.bring(0, 6, 5), REFUSED);
        due("reason 5", x.refusal(), 5);
        due("some", x.bring(0, 6, 1), 50);
        due("out", x.loan(0, 4), 3);
        due("in", x.stock(0, 0, 1), 26);
        due("lost", x.stock(0, 0, 3), 1);
        due("out", x.stock(0, 0, 2), 3);
        due("lent", x.loan(0, 3), 10);
        due("too many", x.bring(0, 4, 0), REFUSED);
        due("rest", x.bring(0, 3, 0), 0);
        due("closed", x.count(2), 0);
        due("closed", x.bring(0, 1, 0), REFUSED);
    }

    private static void fees() {
        OrchestraLibrary x = prepared();
        x.lend(0, 0, 0, 30, 5);
        x.pass(5);
        due("due today", x.bring(0, 2, 0), 0);
        x.pass(1);
        due("a day", x.bring(0, 2, 1), 53);
        x.pass(18);
        due("19 days", x.bring(0, 1, 0), 19);
        x.pass(1);
        due("20 days", x.bring(0, 1, 0), 20);
        x.pass(1);
        due("at most 20", x.bring(0, 2, 0), 40);
        x.pass(999);
        due("at most 20 and 50", x.bring(0, 0, 2), 140);
        due("sum", x.loan(0, 6), 53 + 19 + 20 + 40 + 140);
        due("sum of the borrower", x.borrower(0, 2), 272);
        due("sum of all", x.count(7), 272);
    }

    private static void loan() {
        OrchestraLibrary x = prepared();
        due("no loan", x.loan(0, 0), NONE);
        x.pass(3);
        x.lend(2, 0, 4, 6, 7);
        int[] numbers = {2, 0, 4, 6, 6, 10, 0, 0};
        for (int what = 0; what < 8; what++) {
            due("loan " + what, x.loan(0, what), numbers[what]);
        }
        due("what -1", x.loan(0, -1), NONE);
        due("what 8", x.loan(0, 8), NONE);
        due("loan 1", x.loan(1, 0), NONE);
        due("loan -1", x.loan(-1, 0), NONE);
        x.pass(7);
        due("due today", x.loan(0, 7), 0);
        x.pass(1);
        due("overdue", x.loan(0, 7), 1);
        x.bring(0, 5, 0);
        due("still overdue", x.loan(0, 7), 1);
        x.bring(0, 1, 0);
        due("closed", x.loan(0, 7), 0);
        due("fees", x.loan(0, 6), 6);
    }

    private static void overdue() {
        OrchestraLibrary x = prepared();
        due("-1", x.overdue(-1), NONE);
        due("none", x.overdue(0), NOTHING);
        int[] days = {5, 2, 5, 9, 2, 0};
        for (int i = 0; i < 6; i++) {
            x.lend(i, 0, i, 1, days[i]);
        }
        x.pass(6);
        int[] order = {5, 1, 4, 0, 2, NOTHING};
        for (int place = 0; place < 6; place++) {
            due("overdue " + place, x.overdue(place), order[place]);
        }
        x.bring(1, 0, 1);
        due("closed", x.overdue(1), 4);
        due("far", x.overdue(Integer.MAX_VALUE), NOTHING);
    }

    private static void borrower() {
        OrchestraLibrary x = prepared();
        due("-1", x.borrower(-1, 0), NONE);
        due("6", x.borrower(6, 0), NONE);
        due("what -1", x.borrower(0, -1), NONE);
        due("what 4", x.borrower(0, 4), NONE);
        x.lend(3, 0, 0, 5, 1);
        x.lend(3, 0, 1, 7, 2);
        x.lend(4, 0, 2, 9, 0);
        x.pass(3);
        due("out", x.borrower(3, 0), 12);
        due("overdue", x.borrower(3, 3), 2);
        x.bring(0, 3, 2);
        x.bring(1, 1, 1);
        due("out", x.borrower(3, 0), 5);
        due("lost, closed loans too", x.borrower(3, 1), 3);
        due("fees, closed loans too", x.borrower(3, 2), 110 + 52);
        due("overdue", x.borrower(3, 3), 1);
        due("another", x.borrower(4, 0), 9);
        due("another", x.borrower(4, 1), 0);
        due("another", x.borrower(4, 2), 0);
        due("another", x.borrower(4, 3), 1);
    }

    private static void pass() {
        OrchestraLibrary x = new OrchestraLibrary();
        due("0", x.pass(0), BAD);
        due("-1", x.pass(-1), BAD);
        due("1000", x.pass(1000), BAD);
        due("1", x.pass(1), 1);
        for (int i = 1; i <= 10; i++) {
            due("999", x.pass(999), 1 + 999 * i);
        }
        due("10000", x.pass(9), FULL);
        due("bad ahead of full", x.pass(1000), BAD);
        due("9999", x.pass(8), 9999);
        due("full", x.pass(1), FULL);
        due("day", x.count(8), 9999);
    }
}
