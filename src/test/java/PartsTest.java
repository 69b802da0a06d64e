/** Promises 17 to 24: players, copies of parts and bowings. */
public final class PartsTest {
    private static final int NONE = OrchestraLibrary.NONE;
    private static final int BAD = OrchestraLibrary.BAD;
    private static final int FULL = OrchestraLibrary.FULL;
    private static final int NOTHING = OrchestraLibrary.NOTHING;
    private static final Checks CHECKS = new Checks("PartsTest");

    public static void main(String[] args) {
        seatAndNeeds();
        buy();
        stock();
        bow();
        copyBowingsCodes();
        copyBowingsCounts();
        copiedKeeps();
        firstAndLastBar();
        CHECKS.finish();
    }

    private static void due(String call, int got, int want) {
        CHECKS.due(call, got, want);
    }

    private static void seatAndNeeds() {
        OrchestraLibrary x = new OrchestraLibrary();
        due("seat -1", x.seat(-1, 1), NONE);
        due("seat 6", x.seat(6, 99), NONE);
        due("players -1", x.seat(0, -1), BAD);
        due("players 21", x.seat(0, 21), BAD);
        due("needs -1", x.needs(-1), NONE);
        due("needs 6", x.needs(6), NONE);
        for (int instrument = 0; instrument < 6; instrument++) {
            int before = 0;
            for (int players = 20; players >= 0; players--) {
                due("seat", x.seat(instrument, players), before);
                due("needs", x.needs(instrument), instrument < 4 ? players / 2 + players % 2 : players);
                before = players;
            }
        }
    }

    private static void buy() {
        OrchestraLibrary x = new OrchestraLibrary();
        due("no edition", x.buy(0, 0, 1), NONE);
        x.edition(0, 1, 1);
        x.derive(0);
        due("instrument -1", x.buy(0, -1, 1), NONE);
        due("instrument 6", x.buy(0, 6, 0), NONE);
        due("copies 0", x.buy(0, 0, 0), BAD);
        due("copies 31", x.buy(0, 0, 31), BAD);
        due("29", x.buy(0, 0, 29), 29);
        due("31 in all", x.buy(0, 0, 2), FULL);
        due("30 in all", x.buy(0, 0, 1), 30);
        due("full", x.buy(0, 0, 1), FULL);
        due("bad ahead of full", x.buy(0, 0, 31), BAD);
        x.lend(0, 0, 0, 5, 1);
        x.bring(0, 1, 4);
        due("lost ones count", x.buy(0, 0, 1), FULL);
        due("other instrument", x.buy(0, 5, 30), 30);
        due("other edition", x.buy(1, 0, 30), 30);
    }

    private static void stock() {
        OrchestraLibrary x = new OrchestraLibrary();
        due("no edition", x.stock(0, 0, 0), NONE);
        x.edition(0, 1, 1);
        x.buy(0, 4, 9);
        x.lend(0, 0, 4, 5, 1);
        x.bring(0, 1, 2);
        due("bought", x.stock(0, 4, 0), 9);
        due("in", x.stock(0, 4, 1), 5);
        due("out", x.stock(0, 4, 2), 2);
        due("lost", x.stock(0, 4, 3), 2);
        due("other", x.stock(0, 3, 0), 0);
        due("what -1", x.stock(0, 4, -1), NONE);
        due("what 4", x.stock(0, 4, 4), NONE);
        due("instrument 6", x.stock(0, 6, 0), NONE);
        due("instrument -1", x.stock(0, -1, 0), NONE);
    }

    private static void bow() {
        OrchestraLibrary x = new OrchestraLibrary();
        due("no edition", x.bow(0, 0, 1, 1), NONE);
        due("no edition", x.bowing(0, 0, 1), NONE);
        x.edition(0, 2, 1);
        due("winds", x.bow(0, 4, 1, 1), NONE);
        due("winds ahead of bad", x.bow(0, 5, 1, 9), NONE);
        due("winds", x.bowing(0, 4, 1), NONE);
        due("instrument -1", x.bow(0, -1, 1, 1), NONE);
        due("instrument -1", x.bowing(0, -1, 1), NONE);
        due("bar 0", x.bow(0, 0, 0, 1), NONE);
        due("bar 3", x.bow(0, 0, 3, 1), NONE);
        due("bar 3", x.bowing(0, 0, 3), NONE);
        due("bowing -1", x.bow(0, 0, 1, -1), BAD);
        due("bowing 5", x.bow(0, 0, 1, 5), BAD);
        due("bow", x.bow(0, 3, 2, 4), 0);
        due("bowing", x.bowing(0, 3, 2), 4);
        due("other instrument", x.bowing(0, 2, 2), 0);
        due("other bar", x.bowing(0, 3, 1), 0);
        due("again", x.bow(0, 3, 2, 1), 4);
        due("away", x.bow(0, 3, 2, 0), 1);
        due("gone", x.bowing(0, 3, 2), 0);
    }

    private static void copyBowingsCodes() {
        OrchestraLibrary x = new OrchestraLibrary();
        due("no edition", x.copyBowings(0, 0, 0, 0), NONE);
        x.edition(0, 2, 1);
        x.derive(0);
        x.edition(1, 2, 1);
        due("winds", x.copyBowings(0, 1, 4, 0), NONE);
        due("winds ahead of bad", x.copyBowings(0, 0, 4, 7), NONE);
        due("from", x.copyBowings(3, 1, 0, 0), NONE);
        due("to", x.copyBowings(0, 3, 0, 0), NONE);
        due("itself", x.copyBowings(0, 0, 0, 0), BAD);
        due("works", x.copyBowings(0, 2, 0, 0), BAD);
        due("mode -1", x.copyBowings(0, 1, 0, -1), BAD);
        due("mode 2", x.copyBowings(0, 1, 0, 2), BAD);
        due("copied", x.copied(0), NOTHING);
        due("copied none", x.copied(4), NONE);
        due("copied none", x.copied(-1), NONE);
        due("no bowings", x.copyBowings(0, 1, 0, 0), 0);
        due("copied", x.copied(0), 0);
        due("copied none", x.copied(4), NONE);
    }

    /** From: bars 1 to 8 with bowings but 8; to: bar 2 cut out, others alike, clashing, empty or reworked. */
    private static OrchestraLibrary prepared() {
        OrchestraLibrary x = new OrchestraLibrary();
        x.edition(0, 8, 1);
        x.derive(0);
        for (int bar = 1; bar <= 7; bar++) {
            x.bow(0, 1, bar, 1 + bar % 4);
        }
        x.cut(1, 2, 2);
        x.insert(1, 0, 1, 1);
        x.bow(1, 1, 3, 4);
        x.bow(1, 1, 4, 3);
        x.bow(1, 1, 5, 4);
        x.bow(1, 1, 8, 2);
        x.rework(1, 4, 2);
        x.rework(1, 5, 2);
        x.rework(1, 6, 2);
        x.rework(0, 7, 2);
        return x;
    }

    private static void copyBowingsCounts() {
        OrchestraLibrary x = prepared();
        due("mode 0", x.copyBowings(0, 1, 1, 0), 3);
        int[] counts = {3, 1, 2, 2};
        int[] bowings = {0, 2, 4, 3, 4, 3, 4, 2};
        for (int what = 0; what < 4; what++) {
            due("mode 0, copied " + what, x.copied(what), counts[what]);
        }
        for (int bar = 1; bar <= 8; bar++) {
            due("mode 0, bowing of " + bar, x.bowing(1, 1, bar), bowings[bar - 1]);
        }
        due("other instruments", x.bowing(1, 0, 2), 0);
        x = prepared();
        due("mode 1", x.copyBowings(0, 1, 1, 1), 5);
        int[] countsOfPut = {5, 1, 2, 4};
        int[] bowingsOfPut = {0, 2, 4, 1, 2, 3, 4, 2};
        for (int what = 0; what < 4; what++) {
            due("mode 1, copied " + what, x.copied(what), countsOfPut[what]);
        }
        for (int bar = 1; bar <= 8; bar++) {
            due("mode 1, bowing of " + bar, x.bowing(1, 1, bar), bowingsOfPut[bar - 1]);
        }
        due("from unchanged", x.bowing(0, 1, 4), 1);
    }

    private static void firstAndLastBar() {
        OrchestraLibrary x = new OrchestraLibrary();
        x.edition(0, 5, 1);
        x.derive(0);
        x.bow(0, 3, 1, 1);
        x.bow(0, 3, 5, 2);
        due("both", x.copyBowings(0, 1, 3, 0), 2);
        due("first", x.bowing(1, 3, 1), 1);
        due("last", x.bowing(1, 3, 5), 2);
        due("none doubtful", x.copied(3), 0);
    }

    private static void copiedKeeps() {
        OrchestraLibrary x = prepared();
        x.save();
        x.copyBowings(0, 1, 1, 0);
        x.undo();
        due("undone", x.bowing(1, 1, 2), 0);
        due("undo leaves copied", x.copied(0), 3);
        x.restore();
        due("restore leaves copied", x.copied(1), 1);
        x.copyBowings(0, 0, 1, 0);
        due("errors leave copied", x.copied(2), 2);
        x.buy(1, 0, 1);
        due("also when bought", x.copyBowings(0, 1, 1, 1), 5);
        due("latest", x.copied(3), 4);
        due("again", x.copyBowings(0, 1, 1, 1), 0);
        due("alike", x.copied(2), 0);
        due("dropped", x.copied(1), 1);
    }
}
