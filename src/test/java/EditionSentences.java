import java.util.HashSet;
import java.util.Set;

/** The sentences about editions and carrying, and those of promises 1 to 9. */
final class EditionSentences implements Codes {
    private final Sentences s;

    EditionSentences(Sentences sentences) {
        s = sentences;
    }

    void testAll() {
        wholeDocument();
        editions();
        origins();
        carrying();
        newObject();
        edition();
        derive();
        cut();
        insert();
        rework();
        ofEdition();
        bar();
        carry();
    }

    private void wholeDocument() {
        s.section("What it is");
        s.namesNoBoundary("A library of an orchestra", "what later calls answer is free");
        s.test("An object is used for at most 512 calls after it has been made", x -> {
            for (int call = 1; call <= 510; call++) {
                s.due(x.pass(1), call);
            }
            s.due(x.undo(), 7);
            s.due(x.count(8), 509);
        });
        s.test("at most 512 calls", x -> {
            s.due(x.edition(0, 99, 9), 0);
            for (int call = 2; call <= 511; call++) {
                s.due(x.rework(0, 1 + call % 99, 1), call - 1);
            }
            s.due(x.bar(0, 1 + 511 % 99, 1), 510);
        });
    }

    private void editions() {
        s.section("Editions");
        s.test("At most 6 editions are kept, numbered from 0", x -> {
            s.due(x.edition(0, 5, 1), 0);
            for (int edition = 1; edition <= 5; edition++) {
                s.due(x.ofEdition(edition, 0), NONE);
                s.due(x.derive(0), edition);
            }
            s.due(x.derive(0), FULL);
            s.due(x.edition(1, 5, 1), FULL);
            s.due(x.count(0), 6);
            s.due(x.ofEdition(5, 1), 5);
            s.due(x.ofEdition(6, 1), NONE);
            s.due(x.ofEdition(-1, 1), NONE);
        });
        s.test("An edition belongs to a work from 0 to 3 and has 1 to 99 bars, numbered from 1", x -> {
            s.due(x.edition(-1, 1, 1), NONE);
            s.due(x.edition(4, 1, 1), NONE);
            s.due(x.edition(0, 0, 1), BAD);
            s.due(x.edition(0, 100, 1), BAD);
            s.due(x.edition(0, 1, 1), 0);
            s.due(x.edition(3, 99, 1), 1);
            s.due(x.edition(1, 2, 1), 2);
            s.due(x.edition(2, 98, 1), 3);
            s.due(x.bar(1, 0, 0), NONE);
            s.due(x.bar(1, 1, 0), 1);
            s.due(x.bar(1, 99, 0), 99);
            s.due(x.bar(1, 100, 0), NONE);
            s.due(x.bar(0, 1, 0), 1);
            s.due(x.bar(0, 2, 0), NONE);
        });
        s.test("Each bar has an origin, a version and beats from 1 to 9", x -> {
            s.due(x.edition(0, 3, 0), BAD);
            s.due(x.edition(0, 3, 10), BAD);
            s.due(x.edition(0, 3, 1), 0);
            s.due(x.edition(1, 3, 9), 1);
            s.due(x.insert(0, 0, 1, 0), BAD);
            s.due(x.insert(0, 0, 1, 10), BAD);
            s.due(x.insert(0, 0, 1, 9), 4);
            s.due(x.insert(1, 0, 1, 1), 4);
            s.due(x.rework(0, 2, 0), BAD);
            s.due(x.rework(0, 2, 10), BAD);
            s.due(x.rework(0, 2, 9), 1);
            s.due(x.rework(1, 2, 1), 1);
            for (int bar = 1; bar <= 4; bar++) {
                s.dueAll(new int[] {x.bar(0, bar, 0), x.bar(0, bar, 1), x.bar(0, bar, 2)},
                    new int[][] {{4, 0, 9}, {1, 1, 9}, {2, 0, 1}, {3, 0, 1}}[bar - 1]);
                s.dueAll(new int[] {x.bar(1, bar, 0), x.bar(1, bar, 1), x.bar(1, bar, 2)},
                    new int[][] {{4, 0, 1}, {1, 1, 1}, {2, 0, 9}, {3, 0, 9}}[bar - 1]);
            }
        });
        s.test("The first edition of a work has bars of the same beats, with the origins 1, 2, 3", x -> {
            x.edition(2, 7, 3);
            x.insert(0, 7, 5, 3);
            x.rework(0, 1, 8);
            x.edition(1, 99, 6);
            for (int bar = 1; bar <= 99; bar++) {
                s.dueAll(new int[] {x.bar(1, bar, 0), x.bar(1, bar, 1), x.bar(1, bar, 2)}, bar, 0, 6);
            }
        });
        s.test("Every other edition is made as a copy of one of the same work, which is its model", x -> {
            x.edition(2, 7, 3);
            s.due(x.edition(2, 7, 3), STATE);
            s.due(x.derive(0), 1);
            s.due(x.edition(2, 7, 3), STATE);
            s.due(x.derive(1), 2);
            s.dueAll(new int[] {x.ofEdition(0, 0), x.ofEdition(1, 0), x.ofEdition(2, 0)}, 2, 2, 2);
            s.dueAll(new int[] {x.ofEdition(0, 2), x.ofEdition(1, 2), x.ofEdition(2, 2)}, NOTHING, 0, 1);
        });
    }

    private void origins() {
        s.test("Bars that are inserted into an edition have the version 0", x -> {
            x.edition(0, 3, 1);
            x.edition(1, 9, 1);
            x.derive(0);
            x.rework(0, 1, 1);
            s.due(x.insert(0, 3, 2, 1), 5);
            s.dueAll(new int[] {x.bar(0, 4, 0), x.bar(0, 5, 0), x.bar(0, 4, 1), x.bar(0, 5, 1)}, 4, 5, 0, 0);
            s.due(x.insert(2, 0, 2, 1), 5);
            s.dueAll(new int[] {x.bar(2, 1, 0), x.bar(2, 2, 0), x.bar(2, 3, 0)}, 6, 7, 1);
            s.due(x.cut(2, 1, 2), 3);
            s.due(x.insert(0, 0, 1, 1), 6);
            s.due(x.bar(0, 1, 0), 8);
            s.due(x.insert(1, 9, 1, 1), 10);
            s.due(x.bar(1, 10, 0), 10);
        });
        s.test("inserted into an edition have the version 0", x -> {
            x.edition(0, 3, 1);
            for (int bar = 1; bar <= 3; bar++) {
                x.rework(0, bar, 5);
            }
            s.dueAll(new int[] {x.cut(0, 2, 3), x.insert(0, 1, 2, 1), x.insert(0, 0, 1, 1)}, 1, 3, 4);
            s.dueAll(new int[] {x.bar(0, 1, 1), x.bar(0, 2, 1), x.bar(0, 3, 1), x.bar(0, 4, 1)}, 0, 1, 0, 0);
        });
        s.test("A bar that is reworked gets other beats, and as its version the next number", x -> {
            x.edition(0, 3, 1);
            x.edition(1, 3, 1);
            x.derive(0);
            s.due(x.rework(0, 3, 9), 1);
            s.dueAll(new int[] {x.bar(0, 3, 1), x.bar(0, 3, 2), x.bar(2, 3, 1), x.bar(2, 3, 2)}, 1, 9, 0, 1);
            s.due(x.rework(2, 1, 2), 2);
            s.due(x.cut(2, 1, 1), 2);
            s.due(x.rework(0, 3, 8), 3);
            s.due(x.rework(1, 1, 2), 1);
            s.due(x.bar(0, 2, 1), 0);
        });
        s.test("The bars of an edition can be changed only as long as no copies of its parts have been bought", x -> {
            x.edition(0, 9, 1);
            x.derive(0);
            s.dueAll(new int[] {x.cut(0, 9, 9), x.insert(0, 0, 1, 1), x.rework(0, 1, 1)}, 8, 9, 1);
            x.buy(0, 5, 1);
            s.dueAll(new int[] {x.cut(0, 9, 9), x.insert(0, 0, 1, 1), x.rework(0, 1, 1)}, REFUSED, REFUSED, REFUSED);
            s.dueAll(new int[] {x.cut(1, 9, 9), x.insert(1, 0, 1, 1), x.rework(1, 1, 1)}, 8, 9, 2);
            x.lend(0, 0, 5, 1, 0);
            x.bring(0, 0, 1);
            s.dueAll(new int[] {x.cut(0, 9, 9), x.insert(0, 0, 1, 1), x.rework(0, 1, 1)}, REFUSED, REFUSED, REFUSED);
        });
    }

    private void carrying() {
        s.section("Carrying");
        s.test("A bar is carried to the bar of another edition of the same work that has the same origin", x -> {
            x.edition(0, 4, 1);
            x.derive(0);
            x.insert(1, 0, 1, 1);
            x.cut(1, 3, 3);
            x.rework(1, 2, 5);
            s.dueAll(new int[] {x.carry(0, 1, 1), x.carry(0, 2, 1), x.carry(0, 3, 1), x.carry(0, 4, 1)},
                2, NOTHING, 3, 4);
            s.dueAll(new int[] {x.carry(1, 1, 0), x.carry(1, 2, 0), x.carry(1, 3, 0), x.carry(1, 4, 0)},
                NOTHING, 1, 3, 4);
        });
        s.test("So an edition has each origin at most once, and bars that two editions have in common", x -> {
            x.edition(0, 6, 1);
            x.derive(0);
            x.insert(0, 3, 2, 1);
            x.insert(1, 3, 3, 1);
            x.derive(1);
            x.cut(2, 5, 5);
            x.insert(2, 6, 2, 1);
            x.cut(1, 1, 1);
            x.insert(1, 0, 1, 1);
            for (int one = 0; one < 3; one++) {
                dueOriginsOnce(x, one);
                for (int other = 0; other < 3; other++) {
                    dueSameOrder(x, one, other);
                }
            }
        });
        s.test("An edition can also be carried to itself", x -> {
            x.edition(0, 4, 1);
            x.insert(0, 2, 1, 1);
            x.rework(0, 5, 1);
            for (int bar = 1; bar <= 5; bar++) {
                s.due(x.carry(0, bar, 0), bar);
            }
            s.due(x.carry(0, 6, 0), NONE);
        });
    }

    private void dueOriginsOnce(OrchestraLibrary x, int edition) {
        Set<Integer> origins = new HashSet<>();
        for (int bar = 1; bar <= x.ofEdition(edition, 1); bar++) {
            s.holds(origins.add(x.bar(edition, bar, 0)));
        }
    }

    private void dueSameOrder(OrchestraLibrary x, int one, int other) {
        int last = 0;
        for (int bar = 1; bar <= x.ofEdition(one, 1); bar++) {
            int there = x.carry(one, bar, other);
            s.holds(there == NOTHING || there > last);
            last = Math.max(last, there);
        }
    }

    private void newObject() {
        s.section("Promise 1");
        s.test("Creates a library without editions", x -> {
            s.due(x.count(0), 0);
            s.due(x.ofEdition(0, 0), NONE);
            s.due(x.derive(0), NONE);
            s.due(x.edition(0, 1, 1), 0);
            s.due(new OrchestraLibrary().count(0), 0);
            s.due(new OrchestraLibrary().ofEdition(0, 0), NONE);
            s.due(x.count(0), 1);
        });
    }

    private void edition() {
        s.section("Promise 2");
        s.test("Makes the first edition of a work", x -> {
            s.due(x.edition(3, 2, 5), 0);
            s.dueAll(new int[] {x.ofEdition(0, 0), x.ofEdition(0, 1), x.bar(0, 1, 2), x.bar(0, 2, 2)}, 3, 2, 5, 5);
            for (int what = 2; what <= 6; what++) {
                s.due(x.ofEdition(0, what), what == 2 ? NOTHING : 0);
            }
        });
        s.test("Makes the first edition", x -> {
            // Nothing is left of editions that are not there any more.
            x.edition(0, 2, 5);
            x.save();
            x.derive(0);
            x.rework(1, 1, 1);
            x.tempo(1, 2, 500);
            x.bow(1, 0, 2, 1);
            x.buy(1, 3, 5);
            x.lend(0, 1, 3, 3, 0);
            x.bring(0, 1, 1);
            s.due(x.restore(), 1);
            s.due(x.edition(1, 2, 5), 1);
            s.dueAll(new int[] {x.ofEdition(1, 0), x.ofEdition(1, 1), x.ofEdition(1, 2), x.ofEdition(1, 4),
                x.ofEdition(1, 5), x.ofEdition(1, 6), x.bar(1, 1, 1), x.rework(1, 1, 1)}, 1, 2, NOTHING, 0, 0, 0, 0, 1);
        });
        s.test("Returns the number of the edition", x -> {
            s.due(x.edition(3, 2, 5), 0);
            s.due(x.derive(0), 1);
            s.due(x.edition(0, 2, 5), 2);
            s.due(x.undo(), 2);
            s.due(x.edition(1, 2, 5), 2);
        });
        s.test("NONE", x -> {
            s.dueAll(new int[] {x.edition(-1, 1, 1), x.edition(4, 1, 1), x.edition(MIN, 1, 1), x.edition(MAX, 1, 1)},
                NONE, NONE, NONE, NONE);
            s.due(x.edition(4, 0, 0), NONE);
            s.due(x.count(0), 0);
        });
        s.test("BAD", x -> {
            s.dueAll(new int[] {x.edition(0, 0, 1), x.edition(0, 100, 1), x.edition(0, MIN, 1), x.edition(0, MAX, 1)},
                BAD, BAD, BAD, BAD);
            s.dueAll(new int[] {x.edition(0, 1, 0), x.edition(0, 1, 10), x.edition(0, 1, MIN), x.edition(0, 1, MAX)},
                BAD, BAD, BAD, BAD);
            s.due(x.edition(0, 1, 1), 0);
            s.due(x.edition(0, 0, 1), BAD);
        });
        s.test("STATE if the work has an edition", x -> {
            s.due(x.edition(1, 1, 1), 0);
            s.due(x.edition(1, 1, 1), STATE);
            s.due(x.edition(0, 1, 1), 1);
            s.due(x.undo(), 1);
            s.due(x.undo(), 0);
            s.due(x.edition(1, 1, 1), 0);
        });
        s.test("FULL", x -> {
            x.edition(0, 1, 1);
            for (int edition = 1; edition <= 4; edition++) {
                x.derive(0);
            }
            s.due(x.edition(1, 1, 1), 5);
            s.due(x.edition(2, 1, 1), FULL);
            s.due(x.edition(1, 1, 1), STATE);
            s.due(x.edition(2, 100, 1), BAD);
        });
    }

    private void derive() {
        s.section("Promise 3");
        s.test("Makes an edition as a copy of another one", x -> {
            x.edition(0, 3, 1);
            x.rework(0, 2, 5);
            x.insert(0, 3, 1, 9);
            x.derive(0);
            for (int bar = 1; bar <= 4; bar++) {
                for (int what = 0; what <= 4; what++) {
                    s.due(x.bar(1, bar, what), x.bar(0, bar, what));
                }
            }
            s.due(x.bar(1, 5, 0), NONE);
            x.rework(0, 1, 7);
            x.cut(0, 4, 4);
            s.dueAll(new int[] {x.ofEdition(1, 1), x.bar(1, 1, 1), x.bar(1, 1, 2)}, 4, 0, 1);
        });
        s.test("It has no copies of parts", x -> {
            x.edition(0, 3, 1);
            for (int instrument = 0; instrument < 6; instrument++) {
                x.buy(0, instrument, 9);
                x.lend(0, 0, instrument, 4, 0);
                x.bring(instrument, 1, 1);
            }
            x.derive(0);
            s.due(x.ofEdition(1, 4), 0);
            for (int instrument = 0; instrument < 6; instrument++) {
                for (int what = 0; what < 4; what++) {
                    s.due(x.stock(1, instrument, what), 0);
                }
            }
            s.due(x.cut(1, 1, 1), 2);
        });
        s.test("Returns the number of the edition", x -> {
            x.edition(0, 3, 1);
            s.due(x.derive(0), 1);
            s.due(x.derive(1), 2);
            s.due(x.undo(), 2);
            s.due(x.derive(0), 2);
        });
        s.test("NONE", x -> {
            s.due(x.derive(0), NONE);
            x.edition(0, 3, 1);
            s.dueAll(new int[] {x.derive(-1), x.derive(1), x.derive(MIN), x.derive(MAX)}, NONE, NONE, NONE, NONE);
            s.due(x.count(0), 1);
        });
        s.test("FULL", x -> {
            x.edition(0, 3, 1);
            for (int edition = 1; edition <= 5; edition++) {
                s.due(x.derive(edition - 1), edition);
            }
            s.due(x.derive(5), FULL);
            s.due(x.derive(6), NONE);
            s.due(x.undo(), 5);
            s.due(x.derive(4), 5);
        });
    }

    private void cut() {
        s.section("Promise 4");
        s.namesNoBoundary("Cuts bars out of an edition");
        s.test("Returns the number of bars that remain", x -> {
            x.edition(0, 9, 1);
            s.due(x.cut(0, 1, 1), 8);
            s.due(x.bar(0, 1, 0), 2);
            s.due(x.cut(0, 8, 8), 7);
            s.dueAll(new int[] {x.bar(0, 7, 0), x.bar(0, 8, 0)}, 8, NONE);
            s.due(x.cut(0, 2, 6), 2);
            s.dueAll(new int[] {x.bar(0, 1, 0), x.bar(0, 2, 0), x.bar(0, 3, 0)}, 2, 8, NONE);
            s.due(x.cut(0, 2, 2), 1);
        });
        s.test("NONE", x -> {
            s.due(x.cut(0, 1, 1), NONE);
            x.edition(0, 9, 1);
            s.dueAll(new int[] {x.cut(-1, 1, 1), x.cut(1, 1, 1), x.cut(MAX, 1, 1)}, NONE, NONE, NONE);
            s.dueAll(new int[] {x.cut(0, 0, 1), x.cut(0, 1, 10), x.cut(0, 10, 10), x.cut(0, 10, 1)},
                NONE, NONE, NONE, NONE);
            s.dueAll(new int[] {x.cut(0, 2, 0), x.cut(0, MIN, MAX), x.cut(0, 1, MAX), x.cut(0, MIN, 9)},
                NONE, NONE, NONE, NONE);
            s.due(x.ofEdition(0, 1), 9);
        });
        s.test("BAD if the last bar is ahead of the first one, or no bar would remain", x -> {
            x.edition(0, 9, 1);
            s.dueAll(new int[] {x.cut(0, 2, 1), x.cut(0, 9, 1), x.cut(0, 9, 8)}, BAD, BAD, BAD);
            s.due(x.cut(0, 1, 9), BAD);
            s.due(x.cut(0, 1, 8), 1);
            s.due(x.cut(0, 1, 1), BAD);
            s.due(x.bar(0, 1, 0), 9);
        });
        s.test("REFUSED", x -> {
            x.edition(0, 9, 1);
            x.buy(0, 0, 1);
            s.due(x.cut(0, 1, 1), REFUSED);
            s.due(x.refusal(), 4);
            s.due(x.ofEdition(0, 1), 9);
            s.due(x.cut(0, 1, 9), BAD);
            s.due(x.cut(0, 1, 10), NONE);
            s.due(x.undo(), 1);
            s.due(x.cut(0, 1, 1), 8);
        });
    }

    private void insert() {
        s.section("Promise 5");
        s.namesNoBoundary("Inserts bars into an edition");
        s.test("`behind`: the bar behind which they are inserted, or 0 for the beginning", x -> {
            x.edition(0, 2, 1);
            s.dueAll(new int[] {x.insert(0, -1, 1, 1), x.insert(0, 3, 1, 1)}, NONE, NONE);
            s.dueAll(new int[] {x.insert(0, 0, 1, 1), x.insert(0, 3, 1, 1), x.insert(0, 2, 1, 1)}, 3, 4, 5);
            s.dueAll(new int[] {x.bar(0, 1, 0), x.bar(0, 2, 0), x.bar(0, 3, 0), x.bar(0, 4, 0), x.bar(0, 5, 0)},
                3, 1, 5, 2, 4);
        });
        s.test("`count`: the number of bars, 1 to 99", x -> {
            x.edition(0, 1, 1);
            s.dueAll(new int[] {x.insert(0, 0, 0, 1), x.insert(0, 0, -1, 1), x.insert(0, 0, 100, 1)}, BAD, BAD, BAD);
            s.due(x.insert(0, 0, 99, 1), FULL);
            s.due(x.insert(0, 0, 1, 1), 2);
            s.due(x.insert(0, 0, 97, 1), 99);
        });
        s.test("Returns the number of bars then", x -> {
            x.edition(0, 1, 1);
            s.due(x.insert(0, 1, 3, 1), 4);
            s.due(x.insert(0, 2, 1, 1), 5);
            s.due(x.ofEdition(0, 1), 5);
        });
        s.test("NONE", x -> {
            s.due(x.insert(0, 0, 1, 1), NONE);
            x.edition(0, 2, 1);
            s.dueAll(new int[] {x.insert(-1, 0, 1, 1), x.insert(1, 0, 1, 1), x.insert(MIN, 0, 1, 1)}, NONE, NONE, NONE);
            s.dueAll(new int[] {x.insert(0, MIN, 1, 1), x.insert(0, MAX, 1, 1), x.insert(0, 3, 0, 0)}, NONE, NONE, NONE);
            s.due(x.ofEdition(0, 1), 2);
        });
        s.test("BAD", x -> {
            x.edition(0, 2, 1);
            s.dueAll(new int[] {x.insert(0, 0, MIN, 1), x.insert(0, 0, MAX, 1), x.insert(0, 0, 100, 1)}, BAD, BAD, BAD);
            s.dueAll(new int[] {x.insert(0, 0, 1, 0), x.insert(0, 0, 1, 10), x.insert(0, 0, 1, MAX)}, BAD, BAD, BAD);
            s.due(x.ofEdition(0, 1), 2);
        });
        s.test("FULL if there would be more than 99 bars", x -> {
            x.edition(0, 97, 1);
            s.due(x.insert(0, 97, 3, 1), FULL);
            s.due(x.insert(0, 97, 1, 1), 98);
            s.due(x.insert(0, 0, 2, 1), FULL);
            s.due(x.insert(0, 0, 1, 1), 99);
            s.due(x.insert(0, 0, 1, 1), FULL);
            s.due(x.ofEdition(0, 1), 99);
            s.due(x.bar(0, 99, 0), 98);
            s.due(x.cut(0, 50, 50), 98);
            s.due(x.insert(0, 98, 1, 1), 99);
        });
        s.test("REFUSED", x -> {
            x.edition(0, 97, 1);
            x.buy(0, 0, 1);
            s.due(x.insert(0, 0, 1, 1), REFUSED);
            s.due(x.refusal(), 4);
            s.due(x.ofEdition(0, 1), 97);
            s.due(x.insert(0, 0, 3, 1), FULL);
            s.due(x.insert(0, 0, 1, 0), BAD);
            s.due(x.insert(0, 98, 1, 1), NONE);
            s.due(x.undo(), 1);
            s.due(x.insert(0, 0, 1, 1), 98);
            s.due(x.bar(0, 1, 0), 98);
        });
    }

    private void rework() {
        s.section("Promise 6");
        s.namesNoBoundary("Reworks a bar of an edition");
        s.test("Returns its version then", x -> {
            x.edition(0, 3, 4);
            s.due(x.rework(0, 1, 5), 1);
            s.due(x.rework(0, 3, 5), 2);
            s.due(x.rework(0, 1, 5), 3);
            s.dueAll(new int[] {x.bar(0, 1, 1), x.bar(0, 2, 1), x.bar(0, 3, 1)}, 3, 0, 2);
        });
        s.test("NONE", x -> {
            s.due(x.rework(0, 1, 1), NONE);
            x.edition(0, 3, 4);
            s.dueAll(new int[] {x.rework(-1, 1, 1), x.rework(1, 1, 1), x.rework(MAX, 1, 1)}, NONE, NONE, NONE);
            s.dueAll(new int[] {x.rework(0, 0, 1), x.rework(0, 4, 1), x.rework(0, -1, 1)}, NONE, NONE, NONE);
            s.dueAll(new int[] {x.rework(0, MIN, 1), x.rework(0, MAX, 1), x.rework(0, 4, 0)}, NONE, NONE, NONE);
        });
        s.test("BAD", x -> {
            x.edition(0, 3, 4);
            s.dueAll(new int[] {x.rework(0, 1, 0), x.rework(0, 1, 10), x.rework(0, 3, -1)}, BAD, BAD, BAD);
            s.dueAll(new int[] {x.rework(0, 1, MIN), x.rework(0, 1, MAX)}, BAD, BAD);
            s.dueAll(new int[] {x.bar(0, 1, 1), x.bar(0, 1, 2)}, 0, 4);
            s.due(x.rework(0, 1, 9), 1);
            s.due(x.rework(0, 1, 1), 2);
        });
        s.test("REFUSED", x -> {
            x.edition(0, 3, 4);
            x.buy(0, 3, 1);
            s.due(x.rework(0, 1, 5), REFUSED);
            s.due(x.refusal(), 4);
            s.dueAll(new int[] {x.bar(0, 1, 1), x.bar(0, 1, 2)}, 0, 4);
            s.due(x.rework(0, 1, 10), BAD);
            s.due(x.rework(0, 4, 1), NONE);
            s.due(x.undo(), 1);
            s.due(x.rework(0, 1, 5), 1);
        });
    }

    private void ofEdition() {
        s.section("Promise 7");
        s.namesNoBoundary("Returns a number of an edition");
        s.test("`what`: 0 for its work, 1 for its bars, 2 for its model, or NOTHING, 3 for the editions", x -> {
            x.edition(2, 7, 1);
            x.derive(0);
            x.derive(1);
            x.derive(1);
            x.buy(1, 0, 30);
            x.buy(1, 5, 2);
            x.bow(1, 0, 1, 1);
            x.bow(1, 3, 7, 4);
            x.bow(1, 3, 1, 4);
            x.tempo(1, 1, 200);
            x.tempo(1, 7, 2500);
            int[] of = new int[7];
            for (int what = 0; what < 7; what++) {
                of[what] = x.ofEdition(1, what);
            }
            s.dueAll(of, 2, 7, 0, 2, 32, 3, 2);
            s.due(x.ofEdition(0, 2), NOTHING);
            s.dueAll(new int[] {x.ofEdition(0, 3), x.ofEdition(2, 3), x.ofEdition(3, 3)}, 1, 0, 0);
            s.dueAll(new int[] {x.ofEdition(2, 4), x.ofEdition(0, 5), x.ofEdition(0, 6)}, 0, 0, 0);
        });
        s.test("Returns the number", x -> {
            x.edition(0, 99, 1);
            for (int edition = 1; edition < 6; edition++) {
                x.derive(0);
            }
            for (int instrument = 0; instrument < 6; instrument++) {
                x.buy(0, instrument, 30);
            }
            s.due(x.ofEdition(0, 1), 99);
            s.due(x.ofEdition(0, 3), 5);
            s.due(x.ofEdition(0, 4), 180);
            for (int bar = 1; bar <= 99; bar++) {
                x.tempo(0, bar, 1000);
                x.bow(0, 0, bar, 1);
                x.bow(0, 3, bar, 1);
            }
            s.due(x.ofEdition(0, 5), 198);
            s.due(x.ofEdition(0, 6), 99);
        });
        s.test("NONE", x -> {
            s.due(x.ofEdition(0, 0), NONE);
            x.edition(0, 99, 1);
            s.dueAll(new int[] {x.ofEdition(-1, 0), x.ofEdition(1, 0), x.ofEdition(MIN, 0), x.ofEdition(MAX, 0)},
                NONE, NONE, NONE, NONE);
            s.dueAll(new int[] {x.ofEdition(0, -1), x.ofEdition(0, 7), x.ofEdition(0, MIN), x.ofEdition(0, MAX)},
                NONE, NONE, NONE, NONE);
        });
    }

    private void bar() {
        s.section("Promise 8");
        s.namesNoBoundary("Returns a number of a bar");
        s.test("`what`: 0 for its origin, 1 for its version, 2 for its beats, 3 for its own tempo, or NOTHING", x -> {
            x.edition(0, 3, 4);
            x.cut(0, 1, 1);
            x.rework(0, 1, 9);
            x.rework(0, 1, 7);
            x.tempo(0, 1, 640);
            int[] first = new int[5];
            int[] second = new int[5];
            for (int what = 0; what < 5; what++) {
                first[what] = x.bar(0, 1, what);
                second[what] = x.bar(0, 2, what);
            }
            s.dueAll(first, 2, 2, 7, 640, 640);
            s.dueAll(second, 3, 0, 4, NOTHING, 640);
        });
        s.test("Returns the number", x -> {
            x.edition(0, 99, 9);
            x.tempo(0, 99, 2500);
            s.dueAll(new int[] {x.bar(0, 99, 0), x.bar(0, 99, 2), x.bar(0, 99, 3), x.bar(0, 98, 4)}, 99, 9, 2500, 1000);
        });
        s.test("NONE", x -> {
            s.due(x.bar(0, 1, 0), NONE);
            x.edition(0, 3, 4);
            s.dueAll(new int[] {x.bar(-1, 1, 0), x.bar(1, 1, 0), x.bar(0, 0, 0), x.bar(0, 4, 0), x.bar(0, -1, 0)},
                NONE, NONE, NONE, NONE, NONE);
            s.dueAll(new int[] {x.bar(0, 1, -1), x.bar(0, 1, 5), x.bar(0, MIN, 0), x.bar(0, MAX, 0), x.bar(0, 1, MAX)},
                NONE, NONE, NONE, NONE, NONE);
            x.cut(0, 3, 3);
            s.due(x.bar(0, 3, 0), NONE);
        });
    }

    private void carry() {
        s.section("Promise 9");
        s.namesNoBoundary("Carries a bar to another edition");
        s.test("`to`: the other edition, possibly the same", x -> {
            x.edition(0, 3, 4);
            s.dueAll(new int[] {x.carry(0, 1, 0), x.carry(0, 3, 0), x.carry(0, 4, 0)}, 1, 3, NONE);
        });
        s.test("Returns the bar there, or NOTHING", x -> {
            x.edition(0, 3, 4);
            x.derive(0);
            x.cut(0, 1, 1);
            s.dueAll(new int[] {x.carry(0, 1, 1), x.carry(0, 2, 1), x.carry(1, 1, 0), x.carry(1, 2, 0)}, 2, 3, NOTHING, 1);
            s.due(x.carry(1, 3, 0), 2);
        });
        s.test("NONE", x -> {
            s.due(x.carry(0, 1, 0), NONE);
            x.edition(0, 3, 4);
            x.edition(1, 3, 4);
            s.dueAll(new int[] {x.carry(-1, 1, 0), x.carry(2, 1, 0), x.carry(0, 1, -1), x.carry(0, 1, 2)},
                NONE, NONE, NONE, NONE);
            s.dueAll(new int[] {x.carry(0, 0, 0), x.carry(0, 4, 0), x.carry(0, MIN, 0), x.carry(0, MAX, 0)},
                NONE, NONE, NONE, NONE);
            s.dueAll(new int[] {x.carry(0, 0, 1), x.carry(0, 4, 1)}, NONE, NONE);
        });
        s.test("BAD if the works are different", x -> {
            x.edition(0, 3, 4);
            x.edition(1, 3, 4);
            x.derive(0);
            s.dueAll(new int[] {x.carry(0, 1, 1), x.carry(1, 3, 0), x.carry(2, 1, 1)}, BAD, BAD, BAD);
            s.due(x.carry(0, 1, 2), 1);
        });
    }
}
