/** The sentences about loans and refusals, and those of promises 25 to 31. */
final class LoanSentences implements Codes {
    private final Sentences s;

    LoanSentences(Sentences sentences) {
        s = sentences;
    }

    void testAll() {
        loans();
        feesOfReturns();
        refusalsToLend();
        otherRefusals();
        orderOfReasons();
        lend();
        lendAll();
        bring();
        loan();
        overdue();
        borrower();
        pass();
    }

    /** Edition 0 with 30 copies of each part, edition 1 with none. */
    private static void stocked(OrchestraLibrary x) {
        x.edition(0, 4, 4);
        x.derive(0);
        for (int instrument = 0; instrument < 6; instrument++) {
            x.buy(0, instrument, 30);
        }
    }

    private void dueRefused(OrchestraLibrary x, int answer, int reason) {
        s.due(answer, REFUSED);
        s.due(x.refusal(), reason);
    }

    private void dueStock(OrchestraLibrary x, int instrument, int in, int out, int lost) {
        s.dueAll(new int[] {x.stock(0, instrument, 1), x.stock(0, instrument, 2), x.stock(0, instrument, 3)},
            in, out, lost);
    }

    private void dueLoan(OrchestraLibrary x, int loan, int... want) {
        int[] got = new int[8];
        for (int what = 0; what < 8; what++) {
            got[what] = x.loan(loan, what);
        }
        s.dueAll(got, want);
    }

    private void dueBorrower(OrchestraLibrary x, int borrower, int... want) {
        s.dueAll(new int[] {x.borrower(borrower, 0), x.borrower(borrower, 1), x.borrower(borrower, 2),
            x.borrower(borrower, 3)}, want);
    }

    private void loans() {
        s.section("Loans");
        s.test("There are 6 borrowers, numbered from 0", x -> {
            stocked(x);
            s.dueAll(new int[] {x.borrower(-1, 0), x.borrower(0, 0), x.borrower(5, 0), x.borrower(6, 0)},
                NONE, 0, 0, NONE);
            s.dueAll(new int[] {x.lend(-1, 0, 0, 1, 0), x.lend(0, 0, 0, 1, 0), x.lend(5, 0, 0, 1, 0),
                x.lend(6, 0, 0, 1, 0)}, NONE, 0, 1, NONE);
        });
        s.test("At most 20 loans are kept, numbered from 0, those that are closed included", x -> {
            stocked(x);
            for (int loan = 0; loan < 20; loan++) {
                s.due(x.lend(loan % 6, 0, 0, 1, 0), loan);
                s.due(x.bring(loan, 1, 0), 0);
            }
            dueRefused(x, x.lend(0, 0, 0, 1, 0), 3);
            s.dueAll(new int[] {x.count(1), x.count(2), x.loan(19, 0), x.loan(20, 0), x.loan(-1, 0)}, 20, 0, 1, NONE, NONE);
        });
        s.test("A loan has a borrower, an edition, an instrument, a number of copies and a due day", x -> {
            stocked(x);
            x.buy(1, 3, 9);
            x.pass(20);
            x.lend(2, 0, 5, 3, 0);
            x.lend(4, 1, 3, 7, 999);
            dueLoan(x, 0, 2, 0, 5, 3, 3, 20, 0, 0);
            dueLoan(x, 1, 4, 1, 3, 7, 7, 1019, 0, 0);
        });
        s.test("it is closed when none of its copies is out any more, and overdue if it is not closed", x -> {
            stocked(x);
            x.lend(2, 0, 5, 3, 4);
            x.pass(4);
            s.dueAll(new int[] {x.count(2), x.loan(0, 7)}, 1, 0);
            x.pass(1);
            s.dueAll(new int[] {x.count(2), x.loan(0, 7)}, 1, 1);
            x.bring(0, 1, 1);
            s.dueAll(new int[] {x.count(2), x.loan(0, 7)}, 1, 1);
            x.bring(0, 1, 0);
            s.dueAll(new int[] {x.count(2), x.loan(0, 7)}, 0, 0);
            x.pass(1);
            s.dueAll(new int[] {x.count(2), x.loan(0, 7), x.overdue(0)}, 0, 0, NOTHING);
        });
        s.test("The present day is 0 at first", x -> {
            s.due(x.count(8), 0);
            stocked(x);
            x.lend(2, 0, 5, 3, 0);
            s.due(x.loan(0, 5), 0);
        });
        s.test("When copies are brought back, good ones are in and bad ones are lost", x -> {
            stocked(x);
            x.lend(2, 0, 5, 10, 0);
            x.bring(0, 3, 0);
            dueStock(x, 5, 23, 7, 0);
            x.bring(0, 0, 2);
            dueStock(x, 5, 23, 5, 2);
            x.bring(0, 1, 4);
            dueStock(x, 5, 24, 0, 6);
        });
    }

    private void feesOfReturns() {
        s.test("The fee for this is 1 for each of these copies and each day by which the present day", x -> {
            stocked(x);
            x.lend(2, 0, 5, 30, 4);
            x.pass(3);
            s.due(x.bring(0, 2, 0), 0);
            x.pass(1);
            s.due(x.bring(0, 2, 0), 0);
            x.pass(1);
            s.due(x.bring(0, 2, 0), 2);
            x.pass(1);
            s.due(x.bring(0, 3, 0), 6);
        });
        s.test("but at most 20 for a copy", x -> {
            stocked(x);
            x.lend(2, 0, 5, 30, 0);
            x.pass(19);
            s.due(x.bring(0, 2, 0), 38);
            x.pass(1);
            s.due(x.bring(0, 2, 0), 40);
            x.pass(1);
            s.due(x.bring(0, 2, 0), 40);
            x.pass(999);
            s.due(x.bring(0, 24, 0), 480);
        });
        s.test("plus 50 for each bad one", x -> {
            stocked(x);
            x.lend(2, 0, 5, 30, 1);
            s.due(x.bring(0, 0, 1), 50);
            s.due(x.bring(0, 1, 2), 100);
            x.pass(2);
            s.due(x.bring(0, 1, 1), 52);
            x.pass(100);
            s.due(x.bring(0, 4, 20), 24 * 20 + 20 * 50);
        });
    }

    private void refusalsToLend() {
        s.section("Refusals");
        s.test("A call can be refused for a reason", x -> {
            s.due(x.refusal(), NOTHING);
            stocked(x);
            dueRefused(x, x.cut(0, 1, 1), 4);
            dueRefused(x, x.lendAll(0, 0, 0), 6);
        });
        s.test("1, there are fewer copies in than are to be lent", x -> {
            stocked(x);
            s.due(x.lend(0, 0, 0, 28, 0), 0);
            dueRefused(x, x.lend(1, 0, 0, 3, 0), 1);
            s.due(x.lend(1, 0, 0, 2, 0), 1);
            dueRefused(x, x.lend(2, 0, 0, 1, 0), 1);
            x.bring(0, 0, 1);
            dueRefused(x, x.lend(2, 0, 0, 1, 0), 1);
            x.bring(0, 1, 0);
            s.due(x.lend(2, 0, 0, 1, 0), 2);
            dueRefused(x, x.lend(2, 1, 0, 1, 0), 1);
        });
        s.test("2, the borrower has an overdue loan", x -> {
            stocked(x);
            x.lend(3, 0, 0, 2, 5);
            x.pass(5);
            s.due(x.lend(3, 0, 1, 1, 9), 1);
            x.pass(1);
            dueRefused(x, x.lend(3, 0, 1, 1, 9), 2);
            s.due(x.lend(2, 0, 1, 1, 9), 2);
            x.bring(0, 1, 0);
            dueRefused(x, x.lend(3, 0, 1, 1, 9), 2);
            x.bring(0, 1, 0);
            s.due(x.lend(3, 0, 1, 1, 9), 3);
        });
        s.test("3, there are not enough loans left of the 20", x -> {
            stocked(x);
            for (int loan = 0; loan < 18; loan++) {
                x.lend(0, 0, 5, 1, 0);
            }
            x.seat(0, 1);
            x.seat(1, 1);
            x.seat(2, 1);
            dueRefused(x, x.lendAll(0, 0, 0), 3);
            s.due(x.count(1), 18);
            s.due(x.lend(0, 0, 5, 1, 0), 18);
            x.seat(0, 0);
            dueRefused(x, x.lendAll(0, 0, 0), 3);
            x.seat(1, 0);
            s.due(x.lendAll(0, 0, 0), 1);
            dueRefused(x, x.lendAll(0, 0, 0), 3);
            dueRefused(x, x.lend(0, 0, 5, 1, 0), 3);
        });
    }

    private void otherRefusals() {
        s.test("To change the bars of an edition: 4, copies of its parts have been bought", x -> {
            stocked(x);
            dueRefused(x, x.cut(0, 1, 1), 4);
            s.due(x.cut(1, 1, 1), 3);
            x.lendAll(0, 0, 0);
            dueRefused(x, x.insert(0, 0, 1, 1), 4);
            s.due(x.insert(1, 0, 1, 1), 4);
            x.lendAll(0, 0, 0);
            dueRefused(x, x.rework(0, 1, 1), 4);
            s.due(x.rework(1, 1, 1), 1);
        });
        s.test("To bring back: 5, more copies than are out", x -> {
            stocked(x);
            x.lend(0, 0, 0, 10, 0);
            x.lend(0, 0, 0, 10, 0);
            dueRefused(x, x.bring(0, 11, 0), 5);
            x.cut(0, 1, 1);
            dueRefused(x, x.bring(0, 0, 11), 5);
            x.cut(0, 1, 1);
            dueRefused(x, x.bring(0, 6, 5), 5);
            s.due(x.bring(0, 5, 5), 250);
            dueRefused(x, x.bring(0, 1, 0), 5);
            s.due(x.bring(1, 10, 0), 0);
        });
        s.test("To lend all that is needed: 6, no instrument has players", x -> {
            stocked(x);
            dueRefused(x, x.lendAll(0, 0, 0), 6);
            x.cut(0, 1, 1);
            x.seat(5, 1);
            x.seat(5, 0);
            dueRefused(x, x.lendAll(0, 0, 0), 6);
            x.seat(5, 1);
            s.due(x.lendAll(0, 0, 0), 1);
        });
        s.test("and then 1, 2 and 3 as to lend, 1 if it is so for any instrument that has players", x -> {
            stocked(x);
            x.seat(0, 20);
            x.seat(5, 3);
            x.lend(1, 0, 5, 28, 0);
            x.lend(1, 0, 4, 30, 0);
            dueRefused(x, x.lendAll(0, 0, 0), 1);
            s.dueAll(new int[] {x.count(1), x.stock(0, 0, 2)}, 2, 0);
            x.cut(0, 1, 1);
            x.seat(5, 2);
            x.pass(1);
            dueRefused(x, x.lendAll(1, 0, 0), 2);
            for (int loan = 2; loan < 19; loan++) {
                x.lend(2, 0, 1, 1, 0);
            }
            dueRefused(x, x.lendAll(0, 0, 0), 3);
            x.seat(0, 0);
            s.due(x.lendAll(0, 0, 0), 1);
        });
    }

    /** Four players of each instrument, and so many copies of one part lent. */
    private static OrchestraLibrary allSeated(int instrument, int lent) {
        OrchestraLibrary x = new OrchestraLibrary();
        stocked(x);
        for (int i = 0; i < 6; i++) {
            x.seat(i, 4);
        }
        x.lend(5, 0, instrument, lent, 0);
        return x;
    }

    private void orderOfReasons() {
        s.test("1 if it is so for any instrument that has players", x -> {
            for (int instrument = 0; instrument < 6; instrument++) {
                int desks = instrument < 4 ? 2 : 4;
                OrchestraLibrary few = allSeated(instrument, 30 - desks + 1);
                dueRefused(few, few.lendAll(0, 0, 0), 1);
                s.due(few.count(1), 1);
                few.seat(instrument, 0);
                s.due(few.lendAll(0, 0, 0), 5);
                OrchestraLibrary enough = allSeated(instrument, 30 - desks);
                s.due(enough.lendAll(0, 0, 0), 6);
            }
        });
        s.test("Of several reasons the one with the lowest number counts, but 6 ahead of all others", x -> {
            stocked(x);
            x.lend(0, 0, 0, 30, 0);
            for (int loan = 1; loan < 20; loan++) {
                x.lend(1, 0, 1, 1, 0);
            }
            dueRefused(x, x.lend(0, 0, 0, 1, 0), 1);
            dueRefused(x, x.lend(0, 0, 1, 1, 0), 3);
            x.pass(1);
            dueRefused(x, x.lend(0, 0, 0, 1, 0), 1);
            dueRefused(x, x.lend(0, 0, 1, 1, 0), 2);
            dueRefused(x, x.lend(2, 0, 0, 1, 0), 1);
            dueRefused(x, x.lend(2, 0, 1, 1, 0), 3);
        });
        s.test("the one with the lowest number counts, but 6 ahead of all others", x -> {
            stocked(x);
            for (int loan = 0; loan < 20; loan++) {
                x.lend(1, 0, 1, 1, 0);
            }
            x.pass(1);
            dueRefused(x, x.lendAll(1, 1, 0), 6);
            x.seat(3, 1);
            dueRefused(x, x.lendAll(1, 1, 0), 1);
            dueRefused(x, x.lendAll(1, 0, 0), 2);
            dueRefused(x, x.lendAll(0, 0, 0), 3);
            dueRefused(x, x.lendAll(0, 1, 0), 1);
            x.seat(3, 0);
            dueRefused(x, x.lendAll(0, 0, 0), 6);
        });
    }

    private void lend() {
        s.section("Promise 25");
        s.namesNoBoundary("Lends copies of a part");
        s.test("`copies`: the number of copies, 1 to 30", x -> {
            stocked(x);
            s.dueAll(new int[] {x.lend(0, 0, 0, 0, 0), x.lend(0, 0, 0, 31, 0), x.lend(0, 0, 0, 1, 0),
                x.lend(0, 0, 1, 30, 0)}, BAD, BAD, 0, 1);
        });
        s.test("`days`: the number of days from the present day to the due day, 0 to 999", x -> {
            stocked(x);
            x.pass(3);
            s.dueAll(new int[] {x.lend(0, 0, 0, 1, -1), x.lend(0, 0, 0, 1, 1000), x.lend(0, 0, 0, 1, 0),
                x.lend(0, 0, 0, 1, 999)}, BAD, BAD, 0, 1);
            s.dueAll(new int[] {x.loan(0, 5), x.loan(1, 5)}, 3, 1002);
            x.pass(999);
            s.dueAll(new int[] {x.loan(0, 7), x.loan(1, 7)}, 1, 0);
            x.pass(1);
            s.due(x.loan(1, 7), 1);
        });
        s.test("Returns the number of the loan", x -> {
            stocked(x);
            s.dueAll(new int[] {x.lend(5, 0, 5, 1, 0), x.lend(0, 0, 0, 1, 0), x.undo(), x.lend(0, 0, 0, 1, 0)}, 0, 1, 7, 1);
            x.bring(0, 1, 0);
            s.due(x.lend(5, 0, 5, 1, 0), 2);
        });
        s.test("NONE", x -> {
            s.due(x.lend(0, 0, 0, 1, 0), NONE);
            stocked(x);
            s.dueAll(new int[] {x.lend(-1, 0, 0, 1, 0), x.lend(6, 0, 0, 1, 0), x.lend(0, -1, 0, 1, 0),
                x.lend(0, 2, 0, 1, 0), x.lend(0, 0, -1, 1, 0), x.lend(0, 0, 6, 1, 0)}, NONE, NONE, NONE, NONE, NONE, NONE);
            s.dueAll(new int[] {x.lend(MAX, 0, 0, 1, 0), x.lend(0, MIN, 0, 1, 0), x.lend(0, 0, MAX, 1, 0),
                x.lend(6, 0, 0, 0, 0), x.lend(0, 0, 6, 31, 1000)}, NONE, NONE, NONE, NONE, NONE);
            s.due(x.count(1), 0);
        });
        s.test("BAD", x -> {
            stocked(x);
            s.dueAll(new int[] {x.lend(0, 0, 0, 0, 0), x.lend(0, 0, 0, 31, 0), x.lend(0, 0, 0, MIN, 0),
                x.lend(0, 0, 0, MAX, 0)}, BAD, BAD, BAD, BAD);
            s.dueAll(new int[] {x.lend(0, 0, 0, 1, -1), x.lend(0, 0, 0, 1, 1000), x.lend(0, 0, 0, 1, MIN),
                x.lend(0, 0, 0, 1, MAX), x.lend(0, 1, 0, 1, 1000)}, BAD, BAD, BAD, BAD, BAD);
            s.dueAll(new int[] {x.count(1), x.count(5), x.refusal()}, 0, 0, NOTHING);
        });
        s.test("REFUSED", x -> {
            stocked(x);
            x.lend(0, 0, 0, 30, 0);
            s.due(x.lend(0, 0, 0, 1, 0), REFUSED);
            s.dueAll(new int[] {x.count(1), x.count(5)}, 1, 30);
            x.pass(1);
            s.due(x.lend(0, 0, 1, 1, 0), REFUSED);
            s.due(x.lend(0, 0, 1, 31, 0), BAD);
            s.dueAll(new int[] {x.count(1), x.count(5)}, 1, 30);
        });
    }

    private void lendAll() {
        s.section("Promise 26");
        s.test("Lends as many copies as they need for all instruments that have players, a loan for each", x -> {
            stocked(x);
            x.seat(5, 4);
            x.seat(0, 3);
            x.seat(3, 20);
            s.due(x.lendAll(2, 0, 6), 3);
            dueLoan(x, 0, 2, 0, 0, 2, 2, 6, 0, 0);
            dueLoan(x, 1, 2, 0, 3, 10, 10, 6, 0, 0);
            dueLoan(x, 2, 2, 0, 5, 4, 4, 6, 0, 0);
            s.dueAll(new int[] {x.count(1), x.count(5), x.stock(0, 0, 1), x.stock(0, 5, 1)}, 3, 16, 28, 26);
        });
        s.test("`days`: as for lend", x -> {
            stocked(x);
            x.seat(5, 1);
            x.pass(3);
            s.dueAll(new int[] {x.lendAll(0, 0, -1), x.lendAll(0, 0, 1000), x.lendAll(0, 0, 0), x.lendAll(0, 0, 999)},
                BAD, BAD, 1, 1);
            s.dueAll(new int[] {x.loan(0, 5), x.loan(1, 5)}, 3, 1002);
        });
        s.test("Returns the number of loans that are made", x -> {
            stocked(x);
            for (int instrument = 0; instrument < 6; instrument++) {
                x.seat(instrument, 1);
                s.due(x.lendAll(0, 0, 0), instrument + 1);
                s.due(x.undo(), 7);
            }
            s.due(x.lendAll(0, 0, 0), 6);
            s.due(x.count(1), 6);
        });
        s.test("NONE", x -> {
            s.due(x.lendAll(0, 0, 0), NONE);
            stocked(x);
            x.seat(5, 1);
            s.dueAll(new int[] {x.lendAll(-1, 0, 0), x.lendAll(6, 0, 0), x.lendAll(0, -1, 0), x.lendAll(0, 2, 0)},
                NONE, NONE, NONE, NONE);
            s.dueAll(new int[] {x.lendAll(MAX, 0, 0), x.lendAll(0, MIN, 0), x.lendAll(6, 0, 1000)}, NONE, NONE, NONE);
        });
        s.test("BAD", x -> {
            stocked(x);
            s.dueAll(new int[] {x.lendAll(0, 0, -1), x.lendAll(0, 0, 1000), x.lendAll(0, 0, MIN), x.lendAll(0, 0, MAX)},
                BAD, BAD, BAD, BAD);
            s.due(x.refusal(), NOTHING);
        });
        s.test("REFUSED", x -> {
            stocked(x);
            s.due(x.lendAll(0, 0, 0), REFUSED);
            x.seat(0, 2);
            x.seat(1, 2);
            x.lend(0, 0, 1, 30, 0);
            s.due(x.lendAll(0, 0, 0), REFUSED);
            s.dueAll(new int[] {x.count(1), x.count(5), x.stock(0, 0, 1)}, 1, 30, 30);
            x.seat(1, 0);
            x.pass(1);
            s.dueAll(new int[] {x.lendAll(0, 0, 0), x.refusal(), x.lendAll(1, 0, 0)}, REFUSED, 2, 1);
        });
    }

    private void bring() {
        s.section("Promise 27");
        s.namesNoBoundary("Brings copies of a loan back");
        s.test("`good`: the number of good copies, 0 to 30", x -> {
            stocked(x);
            x.lend(0, 0, 0, 30, 0);
            s.dueAll(new int[] {x.bring(0, -1, 1), x.bring(0, 31, 0), x.bring(0, 0, 1), x.undo(), x.bring(0, 30, 0)},
                BAD, BAD, 50, 7, 0);
        });
        s.test("`bad`: the number of bad copies, 0 to 30", x -> {
            stocked(x);
            x.lend(0, 0, 0, 30, 0);
            s.dueAll(new int[] {x.bring(0, 1, -1), x.bring(0, 0, 31), x.bring(0, 1, 0), x.undo(), x.bring(0, 0, 30)},
                BAD, BAD, 0, 7, 1500);
        });
        s.test("Returns the fee", x -> {
            stocked(x);
            x.lend(0, 0, 0, 30, 0);
            s.due(x.bring(0, 1, 0), 0);
            x.pass(7);
            s.dueAll(new int[] {x.bring(0, 2, 0), x.bring(0, 0, 2), x.bring(0, 1, 1)}, 14, 114, 64);
            s.due(x.loan(0, 6), 192);
        });
        s.test("NONE", x -> {
            s.due(x.bring(0, 1, 0), NONE);
            stocked(x);
            x.lend(0, 0, 0, 30, 0);
            s.dueAll(new int[] {x.bring(-1, 1, 0), x.bring(1, 1, 0), x.bring(MIN, 1, 0), x.bring(MAX, 1, 0),
                x.bring(1, 0, 0)}, NONE, NONE, NONE, NONE, NONE);
        });
        s.test("BAD, also if both numbers are 0", x -> {
            stocked(x);
            x.lend(0, 0, 0, 30, 0);
            s.dueAll(new int[] {x.bring(0, 0, 0), x.bring(0, -1, 0), x.bring(0, 0, -1), x.bring(0, 31, 0),
                x.bring(0, 0, 31)}, BAD, BAD, BAD, BAD, BAD);
            s.dueAll(new int[] {x.bring(0, MAX, MAX), x.bring(0, MIN, MIN), x.bring(0, 5, MIN), x.bring(0, MAX, 5),
                x.bring(0, 5, -3)}, BAD, BAD, BAD, BAD, BAD);
            dueStock(x, 0, 0, 30, 0);
            x.bring(0, 30, 0);
            s.due(x.bring(0, 0, 0), BAD);
        });
        s.test("REFUSED", x -> {
            stocked(x);
            x.lend(0, 0, 0, 29, 0);
            s.dueAll(new int[] {x.bring(0, 30, 0), x.bring(0, 0, 30), x.bring(0, 15, 15), x.bring(0, 30, 30)},
                REFUSED, REFUSED, REFUSED, REFUSED);
            dueStock(x, 0, 1, 29, 0);
            s.dueAll(new int[] {x.loan(0, 4), x.loan(0, 6), x.refusal()}, 29, 0, 5);
            s.due(x.bring(0, 15, 14), 700);
            s.due(x.bring(0, 0, 1), REFUSED);
        });
    }

    private void loan() {
        s.section("Promise 28");
        s.namesNoBoundary("Returns a number of a loan");
        s.test("`what`: 0 for its borrower, 1 for its edition, 2 for its instrument, 3 for the copies", x -> {
            stocked(x);
            x.buy(1, 4, 30);
            x.lend(3, 1, 4, 20, 5);
            dueLoan(x, 0, 3, 1, 4, 20, 20, 5, 0, 0);
            x.pass(6);
            x.bring(0, 3, 1);
            dueLoan(x, 0, 3, 1, 4, 20, 16, 5, 54, 1);
            x.bring(0, 16, 0);
            dueLoan(x, 0, 3, 1, 4, 20, 0, 5, 70, 0);
        });
        s.test("Returns the number", x -> {
            stocked(x);
            x.pass(999);
            x.lend(5, 0, 5, 30, 999);
            x.lend(0, 0, 0, 1, 0);
            dueLoan(x, 0, 5, 0, 5, 30, 30, 1998, 0, 0);
            dueLoan(x, 1, 0, 0, 0, 1, 1, 999, 0, 0);
        });
        s.test("Returns the number", x -> {
            // Nothing is left of a loan that was undone.
            stocked(x);
            x.buy(1, 4, 30);
            s.due(Checks.readText(x, "l3:1.4*20/0;r0:4+5"), 2);
            s.dueAll(new int[] {x.borrower(3, 1), x.undo()}, 5, 7);
            s.due(x.lend(5, 0, 2, 3, 7), 0);
            dueLoan(x, 0, 5, 0, 2, 3, 3, 7, 0, 0);
            dueBorrower(x, 5, 3, 0, 0, 0);
            dueBorrower(x, 3, 0, 0, 0, 0);
        });
        s.test("NONE", x -> {
            s.due(x.loan(0, 0), NONE);
            stocked(x);
            x.lend(5, 0, 5, 30, 0);
            s.dueAll(new int[] {x.loan(-1, 0), x.loan(1, 0), x.loan(MIN, 0), x.loan(MAX, 0)}, NONE, NONE, NONE, NONE);
            s.dueAll(new int[] {x.loan(0, -1), x.loan(0, 8), x.loan(0, MIN), x.loan(0, MAX)}, NONE, NONE, NONE, NONE);
            x.undo();
            s.due(x.loan(0, 0), NONE);
        });
    }

    private void dueOverdue(OrchestraLibrary x, int... want) {
        for (int place = 0; place < want.length; place++) {
            s.due(x.overdue(place), want[place]);
        }
        s.due(x.overdue(want.length), NOTHING);
    }

    private void overdue() {
        s.section("Promise 29");
        s.test("Returns an overdue loan by its due day, the earliest first, of the same day the lowest number", x -> {
            stocked(x);
            int[] days = {7, 3, 3, 0, 7, 3};
            for (int loan = 0; loan < 6; loan++) {
                x.lend(loan, 0, loan, 1, days[loan]);
            }
            x.pass(7);
            dueOverdue(x, 3, 1, 2, 5);
            x.pass(1);
            dueOverdue(x, 3, 1, 2, 5, 0, 4);
            x.bring(2, 1, 0);
            dueOverdue(x, 3, 1, 5, 0, 4);
        });
        s.test("`place`: the place, from 0", x -> {
            stocked(x);
            x.lend(0, 0, 0, 1, 0);
            x.pass(1);
            s.dueAll(new int[] {x.overdue(-1), x.overdue(0), x.overdue(1)}, NONE, 0, NOTHING);
        });
        s.test("Returns the loan, or NOTHING", x -> {
            s.due(x.overdue(0), NOTHING);
            stocked(x);
            for (int loan = 0; loan < 20; loan++) {
                x.lend(0, 0, 0, 1, 20 - loan);
            }
            s.due(x.overdue(0), NOTHING);
            x.pass(1);
            s.due(x.overdue(0), NOTHING);
            x.pass(1);
            dueOverdue(x, 19);
            x.pass(100);
            s.dueAll(new int[] {x.overdue(0), x.overdue(19), x.overdue(20), x.overdue(MAX)}, 19, 0, NOTHING, NOTHING);
        });
        s.test("NONE if the place is below 0", x -> {
            s.dueAll(new int[] {x.overdue(-1), x.overdue(MIN)}, NONE, NONE);
            stocked(x);
            x.lend(0, 0, 0, 1, 0);
            x.pass(1);
            s.dueAll(new int[] {x.overdue(-1), x.overdue(MIN)}, NONE, NONE);
        });
    }

    private void borrower() {
        s.section("Promise 30");
        s.namesNoBoundary("Returns a number of a borrower");
        s.test("`what`: 0 for the copies that are out, 1 for those that were lost, 2 for the sum of the fees", x -> {
            stocked(x);
            x.lend(1, 0, 0, 10, 0);
            x.lend(1, 0, 1, 20, 3);
            x.lend(2, 0, 2, 5, 0);
            x.pass(2);
            x.bring(0, 3, 2);
            x.bring(1, 0, 1);
            dueBorrower(x, 1, 24, 3, 160, 1);
            dueBorrower(x, 2, 5, 0, 0, 1);
            x.pass(2);
            dueBorrower(x, 1, 24, 3, 160, 2);
        });
        s.test("Returns the number", x -> {
            for (int borrower = 0; borrower < 6; borrower++) {
                dueBorrower(x, borrower, 0, 0, 0, 0);
            }
            stocked(x);
            for (int instrument = 0; instrument < 6; instrument++) {
                x.lend(5, 0, instrument, 30, 0);
            }
            x.pass(999);
            dueBorrower(x, 5, 180, 0, 0, 6);
            for (int loan = 0; loan < 6; loan++) {
                x.bring(loan, 0, 30);
            }
            dueBorrower(x, 5, 0, 180, 180 * 70, 0);
            dueBorrower(x, 4, 0, 0, 0, 0);
        });
        s.test("NONE", x -> {
            s.dueAll(new int[] {x.borrower(-1, 0), x.borrower(6, 0), x.borrower(MIN, 0), x.borrower(MAX, 0)},
                NONE, NONE, NONE, NONE);
            s.dueAll(new int[] {x.borrower(0, -1), x.borrower(0, 4), x.borrower(0, MIN), x.borrower(0, MAX)},
                NONE, NONE, NONE, NONE);
        });
    }

    private void pass() {
        s.section("Promise 31");
        s.namesNoBoundary("Lets days pass");
        s.test("`days`: the number of days, 1 to 999", x -> {
            s.dueAll(new int[] {x.pass(0), x.pass(1000), x.pass(1), x.pass(999)}, BAD, BAD, 1, 1000);
        });
        s.test("Returns the present day then", x -> {
            s.dueAll(new int[] {x.pass(5), x.pass(7), x.count(8)}, 5, 12, 12);
        });
        s.test("BAD", x -> {
            x.pass(3);
            s.dueAll(new int[] {x.pass(0), x.pass(-1), x.pass(1000), x.pass(MIN), x.pass(MAX)}, BAD, BAD, BAD, BAD, BAD);
            s.due(x.count(8), 3);
        });
        s.test("FULL if it would be greater than 9999", x -> {
            for (int i = 1; i <= 10; i++) {
                s.due(x.pass(999), 999 * i);
            }
            s.dueAll(new int[] {x.pass(10), x.pass(999), x.count(8)}, FULL, FULL, 9990);
            s.dueAll(new int[] {x.pass(8), x.pass(2), x.pass(1), x.pass(1)}, 9998, FULL, 9999, FULL);
            s.dueAll(new int[] {x.pass(0), x.pass(1000), x.count(8)}, BAD, BAD, 9999);
        });
    }
}
