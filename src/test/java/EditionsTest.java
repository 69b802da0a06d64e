/** Promises 1 to 9: a new object, editions and their bars. */
public final class EditionsTest {
    private static final int NONE = OrchestraLibrary.NONE;
    private static final int BAD = OrchestraLibrary.BAD;
    private static final int STATE = OrchestraLibrary.STATE;
    private static final int FULL = OrchestraLibrary.FULL;
    private static final int REFUSED = OrchestraLibrary.REFUSED;
    private static final int NOTHING = OrchestraLibrary.NOTHING;
    private static final Checks CHECKS = new Checks("EditionsTest");

    public static void main(String[] args) {
        newObject();
        edition();
        derive();
        cut();
        insert();
        insertNumbersOrigins();
        rework();
        ofEdition();
        bar();
        carry();
        barsOfBoughtEditionsStay();
        allOfABarMoves();
        anUndoneEditionLeavesNothing();
        CHECKS.finish();
    }

    private static void due(String call, int got, int want) {
        CHECKS.due(call, got, want);
    }

    private static void newObject() {
        OrchestraLibrary x = new OrchestraLibrary();
        for (int what = 0; what <= 10; what++) {
            due("new count " + what, x.count(what), 0);
        }
        for (int i = 0; i < 6; i++) {
            due("new needs", x.needs(i), 0);
            due("new borrower", x.borrower(i, 0), 0);
        }
        for (int i = 0; i < 3; i++) {
            due("new box has no places", x.look(i, 0, 0), NONE);
        }
        due("new faultPosition", x.faultPosition(), NOTHING);
        due("new failed", x.failed(), NOTHING);
        due("new refusal", x.refusal(), NOTHING);
        due("new copied", x.copied(0), NOTHING);
        due("new undo", x.undo(), STATE);
        due("new restore", x.restore(), STATE);
        due("new ofEdition", x.ofEdition(0, 0), NONE);
        due("new loan", x.loan(0, 0), NONE);
        due("new overdue", x.overdue(0), NOTHING);
    }

    private static void edition() {
        OrchestraLibrary x = new OrchestraLibrary();
        due("work -1", x.edition(-1, 1, 1), NONE);
        due("work 4 ahead of bad", x.edition(4, 0, 0), NONE);
        due("bars 0", x.edition(0, 0, 1), BAD);
        due("bars 100", x.edition(0, 100, 1), BAD);
        due("beats 0", x.edition(0, 1, 0), BAD);
        due("beats 10", x.edition(0, 1, 10), BAD);
        due("nothing made", x.count(0), 0);
        due("least", x.edition(3, 1, 1), 0);
        due("most", x.edition(0, 99, 9), 1);
        due("work has an edition", x.edition(3, 5, 5), STATE);
        due("bad ahead of state", x.edition(3, 100, 5), BAD);
        for (int bar = 1; bar <= 99; bar++) {
            due("origin", x.bar(1, bar, 0), bar);
            due("version", x.bar(1, bar, 1), 0);
            due("beats", x.bar(1, bar, 2), 9);
            due("tempo", x.bar(1, bar, 3), NOTHING);
        }
        due("bars end", x.bar(1, 100, 0), NONE);
        for (int i = 2; i < 6; i++) {
            due("fill", x.derive(0), i);
        }
        due("state ahead of full", x.edition(0, 1, 1), STATE);
        due("full", x.edition(1, 1, 1), FULL);
        due("count", x.count(0), 6);
    }

    private static void derive() {
        OrchestraLibrary x = new OrchestraLibrary();
        due("no model", x.derive(0), NONE);
        due("edition", x.edition(2, 5, 4), 0);
        due("negative", x.derive(-1), NONE);
        x.rework(0, 3, 7);
        x.tempo(0, 2, 720);
        x.bow(0, 3, 5, 4);
        x.buy(0, 1, 3);
        due("derive", x.derive(0), 1);
        due("work", x.ofEdition(1, 0), 2);
        due("bars", x.ofEdition(1, 1), 5);
        due("model", x.ofEdition(1, 2), 0);
        due("no copies", x.ofEdition(1, 4), 0);
        due("no copies in", x.stock(1, 1, 1), 0);
        due("version", x.bar(1, 3, 1), 1);
        due("beats", x.bar(1, 3, 2), 7);
        due("tempo", x.bar(1, 2, 3), 720);
        due("bowing", x.bowing(1, 3, 5), 4);
        x.tempo(0, 2, 0);
        x.bow(0, 3, 5, 1);
        due("own tempo", x.bar(1, 2, 3), 720);
        due("own bowing", x.bowing(1, 3, 5), 4);
        due("model of a model", x.derive(1), 2);
        due("model 1", x.ofEdition(2, 2), 1);
        x.derive(0);
        x.derive(0);
        due("last", x.derive(0), 5);
        due("full", x.derive(5), FULL);
        due("none ahead of full", x.derive(6), NONE);
    }

    private static void cut() {
        OrchestraLibrary x = new OrchestraLibrary();
        due("no edition", x.cut(0, 1, 1), NONE);
        x.edition(0, 10, 4);
        x.tempo(0, 5, 500);
        x.bow(0, 2, 10, 3);
        due("from 0", x.cut(0, 0, 3), NONE);
        due("to 11", x.cut(0, 3, 11), NONE);
        due("from 11 to 2", x.cut(0, 11, 2), NONE);
        due("reverse", x.cut(0, 3, 2), BAD);
        due("all", x.cut(0, 1, 10), BAD);
        due("middle", x.cut(0, 3, 5), 7);
        due("origin 2", x.bar(0, 2, 0), 2);
        due("origin 3", x.bar(0, 3, 0), 6);
        due("origin 7", x.bar(0, 7, 0), 10);
        due("bowing moves", x.bowing(0, 2, 7), 3);
        due("tempo gone", x.ofEdition(0, 6), 0);
        due("gone", x.bar(0, 8, 0), NONE);
        due("end", x.cut(0, 6, 7), 5);
        due("bowing gone", x.ofEdition(0, 5), 0);
        due("beginning", x.cut(0, 1, 4), 1);
        due("the one left", x.bar(0, 1, 0), 8);
        due("last bar", x.cut(0, 1, 1), BAD);
        x.edition(1, 99, 1);
        due("the last of 99", x.cut(1, 99, 99), 98);
        due("all but the last", x.cut(1, 1, 97), 1);
        due("the last one stays", x.bar(1, 1, 0), 98);
    }

    private static void insert() {
        OrchestraLibrary x = new OrchestraLibrary();
        due("no edition", x.insert(0, 0, 1, 1), NONE);
        x.edition(0, 4, 4);
        x.tempo(0, 1, 600);
        x.tempo(0, 3, 800);
        x.bow(0, 0, 2, 2);
        x.bow(0, 3, 3, 4);
        due("behind -1", x.insert(0, -1, 1, 1), NONE);
        due("behind 5", x.insert(0, 5, 1, 1), NONE);
        due("count 0", x.insert(0, 0, 0, 1), BAD);
        due("count 100", x.insert(0, 0, 100, 1), BAD);
        due("beats 0", x.insert(0, 0, 1, 0), BAD);
        due("beats 10", x.insert(0, 0, 1, 10), BAD);
        due("full", x.insert(0, 4, 96, 1), FULL);
        due("bad ahead of full", x.insert(0, 4, 96, 0), BAD);
        due("middle", x.insert(0, 2, 2, 3), 6);
        int[] origins = {1, 2, 5, 6, 3, 4};
        int[] beats = {4, 4, 3, 3, 4, 4};
        int[] tempos = {600, NOTHING, NOTHING, NOTHING, 800, NOTHING};
        for (int bar = 1; bar <= 6; bar++) {
            due("origin " + bar, x.bar(0, bar, 0), origins[bar - 1]);
            due("beats " + bar, x.bar(0, bar, 2), beats[bar - 1]);
            due("tempo " + bar, x.bar(0, bar, 3), tempos[bar - 1]);
            due("version " + bar, x.bar(0, bar, 1), 0);
        }
        due("bowing stays", x.bowing(0, 0, 2), 2);
        due("none inserted", x.bowing(0, 3, 3), 0);
        due("bowing moves", x.bowing(0, 3, 5), 4);
        due("beginning", x.insert(0, 0, 1, 9), 7);
        due("origin", x.bar(0, 1, 0), 7);
        due("counting tempo", x.bar(0, 1, 4), 1000);
        due("fill to 99", x.insert(0, 7, 92, 1), 99);
        due("origin 99", x.bar(0, 99, 0), 99);
        due("none fits", x.insert(0, 99, 1, 1), FULL);
        due("none fits ahead", x.insert(0, 0, 1, 1), FULL);
    }

    private static void insertNumbersOrigins() {
        OrchestraLibrary x = new OrchestraLibrary();
        x.edition(0, 3, 1);
        x.edition(1, 5, 1);
        x.derive(0);
        due("cut the greatest", x.cut(2, 3, 3), 2);
        due("insert", x.insert(2, 2, 2, 1), 4);
        due("greatest of the work, not of the edition", x.bar(2, 3, 0), 4);
        due("next", x.bar(2, 4, 0), 5);
        due("cut them", x.cut(2, 3, 4), 2);
        due("origins are not used again", x.insert(0, 0, 1, 1), 4);
        due("origin", x.bar(0, 1, 0), 6);
        due("other work", x.insert(1, 5, 1, 1), 6);
        due("its origin", x.bar(1, 6, 0), 6);
        x.undo();
        x.undo();
        due("again", x.insert(2, 0, 1, 1), 3);
        due("undo brings the greatest origin back", x.bar(2, 1, 0), 6);
    }

    private static void rework() {
        OrchestraLibrary x = new OrchestraLibrary();
        due("no edition", x.rework(0, 1, 1), NONE);
        x.edition(0, 4, 4);
        x.edition(1, 4, 4);
        x.tempo(0, 2, 900);
        x.bow(0, 1, 2, 3);
        due("bar 0", x.rework(0, 0, 1), NONE);
        due("bar 5", x.rework(0, 5, 1), NONE);
        due("beats 0", x.rework(0, 1, 0), BAD);
        due("beats 10", x.rework(0, 1, 10), BAD);
        due("first", x.rework(0, 2, 9), 1);
        due("beats", x.bar(0, 2, 2), 9);
        due("version", x.bar(0, 2, 1), 1);
        due("origin", x.bar(0, 2, 0), 2);
        due("tempo", x.bar(0, 2, 3), 900);
        due("bowing", x.bowing(0, 1, 2), 3);
        due("same beats", x.rework(0, 2, 9), 2);
        x.derive(0);
        due("by work", x.rework(2, 1, 1), 3);
        due("other work", x.rework(1, 1, 1), 1);
        due("by work", x.rework(0, 1, 1), 4);
        x.undo();
        due("undo brings the greatest version back", x.rework(0, 1, 1), 4);
        x.cut(0, 1, 1);
        due("a version is not used again", x.rework(0, 1, 1), 5);
        x.insert(0, 0, 1, 1);
        due("version of the inserted", x.bar(0, 1, 1), 0);
    }

    private static void ofEdition() {
        OrchestraLibrary x = new OrchestraLibrary();
        x.edition(3, 7, 2);
        x.derive(0);
        x.derive(0);
        x.derive(1);
        due("work", x.ofEdition(0, 0), 3);
        due("bars", x.ofEdition(0, 1), 7);
        due("no model", x.ofEdition(0, 2), NOTHING);
        due("model", x.ofEdition(3, 2), 1);
        due("models", x.ofEdition(0, 3), 2);
        due("models", x.ofEdition(1, 3), 1);
        due("models", x.ofEdition(3, 3), 0);
        x.buy(0, 0, 2);
        x.buy(0, 5, 3);
        x.lend(0, 0, 5, 3, 0);
        x.bring(0, 1, 1);
        due("bought", x.ofEdition(0, 4), 5);
        due("bought of another", x.ofEdition(1, 4), 0);
        x.bow(0, 0, 1, 1);
        x.bow(0, 3, 1, 1);
        x.bow(0, 3, 7, 2);
        x.bow(0, 3, 7, 3);
        due("bowings", x.ofEdition(0, 5), 3);
        x.bow(0, 3, 1, 0);
        due("bowings", x.ofEdition(0, 5), 2);
        x.tempo(0, 1, 200);
        x.tempo(0, 7, 2500);
        x.tempo(0, 7, 2400);
        due("tempos", x.ofEdition(0, 6), 2);
        x.tempo(0, 1, 0);
        due("tempos", x.ofEdition(0, 6), 1);
        due("what -1", x.ofEdition(0, -1), NONE);
        due("what 7", x.ofEdition(0, 7), NONE);
        due("edition -1", x.ofEdition(-1, 0), NONE);
        due("edition 4", x.ofEdition(4, 0), NONE);
    }

    private static void bar() {
        OrchestraLibrary x = new OrchestraLibrary();
        x.edition(0, 3, 2);
        x.tempo(0, 2, 450);
        due("counting 1", x.bar(0, 1, 4), 1000);
        due("counting 2", x.bar(0, 2, 4), 450);
        due("counting 3", x.bar(0, 3, 4), 450);
        due("own 1", x.bar(0, 1, 3), NOTHING);
        due("own 2", x.bar(0, 2, 3), 450);
        due("own 3", x.bar(0, 3, 3), NOTHING);
        due("what -1", x.bar(0, 1, -1), NONE);
        due("what 5", x.bar(0, 1, 5), NONE);
        x.tempo(0, 1, 333);
        due("counting 1, its own", x.bar(0, 1, 4), 333);
        due("counting 2, its own", x.bar(0, 2, 4), 450);
        x.tempo(0, 1, 0);
        due("bar 0", x.bar(0, 0, 0), NONE);
        due("bar 4", x.bar(0, 4, 0), NONE);
        due("edition 1", x.bar(1, 1, 0), NONE);
        due("edition -1", x.bar(-1, 1, 0), NONE);
        x.cut(0, 2, 2);
        due("tempo cut out", x.bar(0, 2, 4), 1000);
    }

    private static void carry() {
        OrchestraLibrary x = new OrchestraLibrary();
        x.edition(0, 6, 1);
        x.derive(0);
        x.edition(1, 6, 1);
        x.cut(1, 2, 3);
        x.insert(1, 0, 2, 1);
        due("first", x.carry(0, 1, 1), 3);
        due("cut out", x.carry(0, 2, 1), NOTHING);
        due("behind", x.carry(0, 4, 1), 4);
        due("last", x.carry(0, 6, 1), 6);
        due("inserted", x.carry(1, 1, 0), NOTHING);
        due("back", x.carry(1, 4, 0), 4);
        due("itself", x.carry(1, 2, 1), 2);
        due("itself", x.carry(1, 1, 1), 1);
        due("itself", x.carry(0, 6, 0), 6);
        due("other work", x.carry(0, 1, 2), BAD);
        due("no bar", x.carry(0, 7, 2), NONE);
        due("bar 0", x.carry(0, 0, 1), NONE);
        due("no edition", x.carry(3, 1, 0), NONE);
        due("no edition", x.carry(0, 1, 3), NONE);
        due("no edition", x.carry(0, 1, -1), NONE);
    }

    /** Gives each bar numbers of its own, and looks whether they stay together. */
    private static void allOfABarMoves() {
        OrchestraLibrary x = new OrchestraLibrary();
        x.edition(0, 8, 1);
        for (int bar = 1; bar <= 8; bar++) {
            due("version", x.rework(0, bar, bar), bar);
            x.tempo(0, bar, 300 + bar);
            for (int instrument = 0; instrument < 4; instrument++) {
                x.bow(0, instrument, bar, 1 + (bar + instrument) % 4);
            }
        }
        x.insert(0, 3, 2, 9);
        dueBars(x, 0, 1, 2, 3, 0, 0, 4, 5, 6, 7, 8);
        x.cut(0, 2, 4);
        dueBars(x, 0, 1, 0, 4, 5, 6, 7, 8);
        x.derive(0);
        x.cut(0, 1, 1);
        dueBars(x, 0, 0, 4, 5, 6, 7, 8);
        x.insert(0, 0, 1, 9);
        dueBars(x, 0, 0, 0, 4, 5, 6, 7, 8);
        x.insert(0, 7, 1, 9);
        dueBars(x, 0, 0, 0, 4, 5, 6, 7, 8, 0);
        dueBars(x, 1, 1, 0, 4, 5, 6, 7, 8);
    }

    /** For each bar its origin, or 0 for an inserted one. */
    private static void dueBars(OrchestraLibrary x, int edition, int... origins) {
        due("bars", x.ofEdition(edition, 1), origins.length);
        for (int bar = 1; bar <= origins.length; bar++) {
            int origin = origins[bar - 1];
            String call = "of bar " + bar;
            CHECKS.holds("origin " + call, origin == 0 ? x.bar(edition, bar, 0) > 8 : x.bar(edition, bar, 0) == origin);
            due("version " + call, x.bar(edition, bar, 1), origin);
            due("beats " + call, x.bar(edition, bar, 2), origin == 0 ? 9 : origin);
            due("tempo " + call, x.bar(edition, bar, 3), origin == 0 ? NOTHING : 300 + origin);
            for (int instrument = 0; instrument < 4; instrument++) {
                int bowing = origin == 0 ? 0 : 1 + (origin + instrument) % 4;
                due("bowing " + instrument + " " + call, x.bowing(edition, instrument, bar), bowing);
            }
        }
    }

    private static void anUndoneEditionLeavesNothing() {
        OrchestraLibrary x = new OrchestraLibrary();
        x.save();
        for (int round = 0; round < 2; round++) {
            due("edition", x.edition(round, 3, 2), 0);
            due("derive", x.derive(0), 1);
            for (int edition = 0; edition < 2; edition++) {
                due("model", x.ofEdition(edition, 2), edition == 0 ? NOTHING : 0);
                due("bowings", x.ofEdition(edition, 5), 0);
                due("tempos", x.ofEdition(edition, 6), 0);
                due("version", x.bar(edition, 3, 1), 0);
                for (int instrument = 0; instrument < 6; instrument++) {
                    for (int what = 0; what < 4; what++) {
                        due("stock", x.stock(edition, instrument, what), 0);
                    }
                }
                x.rework(edition, 3, 3);
                x.tempo(edition, 3, 300);
                for (int instrument = 0; instrument < 6; instrument++) {
                    x.bow(edition, instrument, 3, 1);
                    x.buy(edition, instrument, 5);
                    x.lend(0, edition, instrument, 3, 0);
                    x.bring(edition * 6 + instrument, 1, 1);
                }
            }
            due("restore", x.restore(), 0);
            due("no copies bought", x.count(3), 0);
            due("no copies lost", x.count(6), 0);
        }
        x.edition(0, 3, 2);
        due("derive", x.derive(0), 1);
        x.restore();
        due("the work again", x.edition(0, 3, 2), 0);
        due("another work", x.edition(1, 3, 2), 1);
        due("no model in place of a derived one", x.ofEdition(1, 2), NOTHING);
        x.undo();
        x.derive(0);
        x.save();
        x.undo();
        x.edition(1, 3, 2);
        x.restore();
        due("a model comes back", x.ofEdition(1, 2), 0);
    }

    private static void barsOfBoughtEditionsStay() {
        OrchestraLibrary x = new OrchestraLibrary();
        x.edition(0, 4, 4);
        x.derive(0);
        x.buy(0, 5, 1);
        due("cut", x.cut(0, 1, 1), REFUSED);
        due("reason", x.refusal(), 4);
        due("bad ahead", x.cut(0, 1, 4), BAD);
        due("insert", x.insert(0, 0, 1, 1), REFUSED);
        due("full ahead", x.insert(0, 0, 96, 1), FULL);
        due("rework", x.rework(0, 1, 1), REFUSED);
        due("none ahead", x.rework(0, 5, 1), NONE);
        due("unchanged", x.ofEdition(0, 1), 4);
        due("the other one", x.cut(1, 1, 1), 3);
        due("tempo", x.tempo(0, 1, 500), NOTHING);
        due("bow", x.bow(0, 0, 1, 1), 0);
        x.lend(0, 0, 5, 1, 0);
        due("out", x.rework(0, 1, 1), REFUSED);
        x.bring(0, 0, 1);
        due("lost", x.rework(0, 1, 1), REFUSED);
    }
}
