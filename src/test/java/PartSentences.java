/** The sentences about parts and bowings, and those of promises 17 to 24. */
final class PartSentences implements Codes {
    private final Sentences s;

    PartSentences(Sentences sentences) {
        s = sentences;
    }

    void testAll() {
        parts();
        bowings();
        copying();
        seat();
        needs();
        buy();
        stock();
        bow();
        bowing();
        copyBowings();
        copied();
    }

    private void parts() {
        s.section("Parts");
        s.test("There are 6 instruments, 0 to 3 strings and 4 and 5 winds", x -> {
            x.edition(0, 1, 1);
            s.dueAll(new int[] {x.needs(-1), x.needs(0), x.needs(5), x.needs(6)}, NONE, 0, 0, NONE);
            s.dueAll(new int[] {x.bow(0, -1, 1, 1), x.bow(0, 0, 1, 1), x.bow(0, 3, 1, 1)}, NONE, 0, 0);
            s.dueAll(new int[] {x.bow(0, 4, 1, 1), x.bow(0, 5, 1, 1), x.bow(0, 6, 1, 1)}, NONE, NONE, NONE);
            x.seat(3, 2);
            x.seat(4, 2);
            s.dueAll(new int[] {x.needs(3), x.needs(4)}, 1, 2);
        });
        s.test("An instrument has 0 to 20 players, at first none", x -> {
            for (int instrument = 0; instrument < 6; instrument++) {
                s.due(x.seat(instrument, -1), BAD);
                s.due(x.seat(instrument, 21), BAD);
                s.due(x.seat(instrument, 20), 0);
                s.due(x.seat(instrument, 0), 20);
            }
        });
        s.test("Two string players share a desk, the last one sitting alone if their number is odd", x -> {
            int[] desks = {0, 1, 1, 2, 2, 3, 3, 4, 4, 5, 5, 6, 6, 7, 7, 8, 8, 9, 9, 10, 10};
            for (int players = 0; players <= 20; players++) {
                for (int instrument = 0; instrument < 4; instrument++) {
                    x.seat(instrument, players);
                    s.due(x.needs(instrument), desks[players]);
                }
            }
        });
        s.test("a wind player has a desk alone", x -> {
            for (int players = 0; players <= 20; players++) {
                x.seat(4, players);
                x.seat(5, 20 - players);
                s.dueAll(new int[] {x.needs(4), x.needs(5)}, players, 20 - players);
            }
        });
        s.test("An instrument needs one copy of its part for each desk", x -> {
            x.edition(0, 1, 1);
            x.seat(0, 5);
            x.seat(5, 5);
            x.buy(0, 0, 3);
            x.buy(0, 5, 5);
            s.due(x.lendAll(0, 0, 0), 2);
            s.dueAll(new int[] {x.loan(0, 3), x.loan(1, 3)}, 3, 5);
        });
        s.test("Of each edition and instrument at most 30 copies are bought", x -> {
            x.edition(0, 1, 1);
            x.derive(0);
            s.due(x.buy(0, 0, 30), 30);
            s.due(x.buy(0, 0, 1), FULL);
            s.due(x.buy(0, 1, 29), 29);
            s.due(x.buy(0, 1, 2), FULL);
            s.due(x.buy(0, 1, 1), 30);
            s.due(x.buy(1, 0, 30), 30);
        });
        s.test("each one is in, out or lost, and at first in", x -> {
            x.edition(0, 1, 1);
            x.buy(0, 2, 9);
            dueStock(x, 9, 9, 0, 0);
            x.lend(0, 0, 2, 9, 0);
            dueStock(x, 9, 0, 9, 0);
            x.bring(0, 2, 3);
            dueStock(x, 9, 2, 4, 3);
            x.bring(0, 0, 4);
            dueStock(x, 9, 2, 0, 7);
            x.buy(0, 2, 1);
            dueStock(x, 10, 3, 0, 7);
        });
    }

    /** The four numbers of the part of edition 0 for instrument 2. */
    private void dueStock(OrchestraLibrary x, int... want) {
        s.dueAll(new int[] {x.stock(0, 2, 0), x.stock(0, 2, 1), x.stock(0, 2, 2), x.stock(0, 2, 3)}, want);
    }

    private void bowings() {
        s.section("Bowings");
        s.test("For each string instrument, a bar of an edition can have a bowing from 1 to 4", x -> {
            x.edition(0, 2, 1);
            for (int instrument = 0; instrument < 4; instrument++) {
                s.dueAll(new int[] {x.bow(0, instrument, 2, 5), x.bow(0, instrument, 2, -1)}, BAD, BAD);
                s.due(x.bow(0, instrument, 2, 1), 0);
                s.due(x.bow(0, instrument, 2, 4 - instrument), 1);
            }
            s.dueAll(new int[] {x.bowing(0, 0, 2), x.bowing(0, 1, 2), x.bowing(0, 2, 2), x.bowing(0, 3, 2)}, 4, 3, 2, 1);
            s.due(x.bowing(0, 0, 1), 0);
        });
        s.test("A bar that is reworked keeps its bowings, an inserted one has none", x -> {
            x.edition(0, 3, 1);
            for (int instrument = 0; instrument < 4; instrument++) {
                x.bow(0, instrument, 1, 1 + instrument);
                x.bow(0, instrument, 3, 4 - instrument);
            }
            x.tempo(0, 3, 700);
            x.rework(0, 1, 9);
            x.insert(0, 0, 1, 1);
            x.insert(0, 3, 1, 1);
            x.derive(0);
            for (int edition = 0; edition < 2; edition++) {
                for (int i = 0; i < 4; i++) {
                    s.dueAll(new int[] {x.bowing(edition, i, 1), x.bowing(edition, i, 2), x.bowing(edition, i, 3),
                        x.bowing(edition, i, 4), x.bowing(edition, i, 5)}, 0, 1 + i, 0, 0, 4 - i);
                }
                s.dueAll(new int[] {x.bar(edition, 5, 3), x.ofEdition(edition, 6)}, 700, 1);
            }
        });
    }

    /** Editions 0 and 1 of one work with the bars 1 to 5 in common. */
    private static void two(OrchestraLibrary x) {
        x.edition(0, 5, 1);
        x.derive(0);
    }

    private void dueCopied(OrchestraLibrary x, int... want) {
        s.dueAll(new int[] {x.copied(0), x.copied(1), x.copied(2), x.copied(3)}, want);
    }

    private void dueBowings(OrchestraLibrary x, int edition, int instrument, int... want) {
        int[] got = new int[want.length];
        for (int bar = 1; bar <= want.length; bar++) {
            got[bar - 1] = x.bowing(edition, instrument, bar);
        }
        s.dueAll(got, want);
    }

    private void copying() {
        s.test("Bowings of an instrument are copied from an edition to another one of the same work", x -> {
            two(x);
            x.bow(0, 1, 1, 1);
            x.bow(0, 1, 5, 4);
            x.bow(0, 2, 3, 2);
            x.insert(1, 0, 1, 1);
            s.due(x.copyBowings(0, 1, 1, 0), 2);
            dueBowings(x, 1, 1, 0, 1, 0, 0, 0, 4);
            dueBowings(x, 1, 2, 0, 0, 0, 0, 0, 0);
            dueBowings(x, 0, 1, 1, 0, 0, 0, 4);
        });
        s.test("If there is no such bar, the bowing is dropped", x -> {
            two(x);
            x.bow(0, 0, 2, 3);
            x.bow(0, 0, 3, 3);
            x.cut(1, 2, 3);
            s.due(x.copyBowings(0, 1, 0, 1), 0);
            dueCopied(x, 0, 2, 0, 0);
            dueBowings(x, 1, 0, 0, 0, 0);
        });
        s.test("Otherwise, if that bar has another bowing, it is a clash", x -> {
            two(x);
            x.bow(0, 0, 2, 3);
            x.bow(1, 0, 2, 4);
            s.due(x.copyBowings(0, 1, 0, 0), 0);
            dueCopied(x, 0, 0, 1, 0);
            dueBowings(x, 1, 0, 0, 4, 0, 0, 0);
            s.due(x.copyBowings(0, 1, 0, 1), 1);
            dueCopied(x, 1, 0, 1, 0);
            dueBowings(x, 1, 0, 0, 3, 0, 0, 0);
        });
        s.test("if it has the same one, nothing happens", x -> {
            two(x);
            x.bow(0, 0, 2, 3);
            x.bow(1, 0, 2, 3);
            x.rework(1, 2, 1);
            for (int mode = 0; mode < 2; mode++) {
                s.due(x.copyBowings(0, 1, 0, mode), 0);
                dueCopied(x, 0, 0, 0, 0);
                dueBowings(x, 1, 0, 0, 3, 0, 0, 0);
            }
        });
        s.test("and if it has none, the bowing is put there", x -> {
            two(x);
            x.bow(0, 0, 1, 4);
            x.bow(1, 1, 1, 2);
            s.due(x.copyBowings(0, 1, 0, 0), 1);
            dueCopied(x, 1, 0, 0, 0);
            dueBowings(x, 1, 0, 4, 0, 0, 0, 0);
        });
        s.test("A bowing that is put to a bar of another version is doubtful", x -> {
            two(x);
            for (int bar = 1; bar <= 5; bar++) {
                x.bow(0, 0, bar, 1);
            }
            x.rework(1, 1, 1);
            x.rework(1, 2, 1);
            x.rework(0, 3, 1);
            x.bow(1, 0, 2, 2);
            s.due(x.copyBowings(0, 1, 0, 0), 4);
            dueCopied(x, 4, 0, 1, 2);
            s.due(x.copyBowings(0, 1, 0, 1), 1);
            dueCopied(x, 1, 0, 1, 1);
        });
    }

    private void seat() {
        s.section("Promise 17");
        s.namesNoBoundary("Sets the number of players of an instrument");
        s.test("Returns the number before", x -> {
            s.dueAll(new int[] {x.seat(0, 20), x.seat(0, 1), x.seat(0, 0), x.seat(5, 3), x.seat(0, 9)}, 0, 20, 1, 0, 0);
            s.dueAll(new int[] {x.seat(5, 3), x.seat(5, 4)}, 3, 3);
        });
        s.test("NONE", x -> {
            s.dueAll(new int[] {x.seat(-1, 1), x.seat(6, 1), x.seat(MIN, 1), x.seat(MAX, 1), x.seat(6, 21)},
                NONE, NONE, NONE, NONE, NONE);
        });
        s.test("BAD", x -> {
            x.seat(0, 7);
            s.dueAll(new int[] {x.seat(0, -1), x.seat(0, 21), x.seat(0, MIN), x.seat(0, MAX)}, BAD, BAD, BAD, BAD);
            s.due(x.seat(0, 7), 7);
        });
    }

    private void needs() {
        s.section("Promise 18");
        s.namesNoBoundary("Returns how many copies of its part an instrument needs");
        s.test("Returns the number", x -> {
            x.seat(0, 1);
            x.seat(3, 20);
            x.seat(4, 1);
            x.seat(5, 20);
            s.dueAll(new int[] {x.needs(0), x.needs(1), x.needs(2), x.needs(3), x.needs(4), x.needs(5)},
                1, 0, 0, 10, 1, 20);
        });
        s.test("NONE", x -> {
            s.dueAll(new int[] {x.needs(-1), x.needs(6), x.needs(MIN), x.needs(MAX)}, NONE, NONE, NONE, NONE);
        });
    }

    private void buy() {
        s.section("Promise 19");
        s.namesNoBoundary("Buys copies of a part");
        s.test("`copies`: the number of copies, 1 to 30", x -> {
            x.edition(0, 1, 1);
            s.dueAll(new int[] {x.buy(0, 0, 0), x.buy(0, 0, 31), x.buy(0, 0, 1), x.buy(0, 5, 30)}, BAD, BAD, 1, 30);
        });
        s.test("Returns the copies of this part that were bought in all", x -> {
            x.edition(0, 1, 1);
            s.dueAll(new int[] {x.buy(0, 0, 1), x.buy(0, 1, 7), x.buy(0, 0, 1), x.buy(0, 0, 28)}, 1, 7, 2, 30);
            x.lend(0, 0, 1, 7, 0);
            x.bring(0, 2, 3);
            s.due(x.buy(0, 1, 1), 8);
        });
        s.test("NONE", x -> {
            s.due(x.buy(0, 0, 1), NONE);
            x.edition(0, 1, 1);
            s.dueAll(new int[] {x.buy(-1, 0, 1), x.buy(1, 0, 1), x.buy(0, -1, 1), x.buy(0, 6, 1)},
                NONE, NONE, NONE, NONE);
            s.dueAll(new int[] {x.buy(0, 6, 0), x.buy(MAX, 0, 1), x.buy(0, MIN, 1)}, NONE, NONE, NONE);
            s.due(x.count(3), 0);
        });
        s.test("BAD", x -> {
            x.edition(0, 1, 1);
            s.dueAll(new int[] {x.buy(0, 0, 0), x.buy(0, 0, 31), x.buy(0, 0, -1), x.buy(0, 0, MIN), x.buy(0, 0, MAX)},
                BAD, BAD, BAD, BAD, BAD);
            s.due(x.count(3), 0);
            x.buy(0, 0, 30);
            s.dueAll(new int[] {x.buy(0, 0, 31), x.buy(0, 0, 0)}, BAD, BAD);
        });
        s.test("FULL", x -> {
            x.edition(0, 1, 1);
            x.buy(0, 0, 29);
            s.dueAll(new int[] {x.buy(0, 0, 2), x.buy(0, 0, 30), x.buy(0, 0, 1), x.buy(0, 0, 1)}, FULL, FULL, 30, FULL);
            s.due(x.stock(0, 0, 0), 30);
        });
    }

    private void stock() {
        s.section("Promise 20");
        s.namesNoBoundary("Returns a number of the copies of a part");
        s.test("`what`: 0 for those that were bought, 1 for those that are in, 2 for those that are out", x -> {
            x.edition(0, 1, 1);
            x.buy(0, 2, 20);
            x.lend(0, 0, 2, 12, 0);
            x.bring(0, 1, 4);
            dueStock(x, 20, 9, 7, 4);
        });
        s.test("Returns the number", x -> {
            x.edition(0, 1, 1);
            dueStock(x, 0, 0, 0, 0);
            x.buy(0, 2, 30);
            dueStock(x, 30, 30, 0, 0);
            x.lend(0, 0, 2, 30, 0);
            dueStock(x, 30, 0, 30, 0);
            x.bring(0, 0, 30);
            dueStock(x, 30, 0, 0, 30);
            s.dueAll(new int[] {x.stock(0, 1, 0), x.stock(0, 3, 0)}, 0, 0);
        });
        s.test("NONE", x -> {
            s.due(x.stock(0, 0, 0), NONE);
            x.edition(0, 1, 1);
            s.dueAll(new int[] {x.stock(-1, 0, 0), x.stock(1, 0, 0), x.stock(0, -1, 0), x.stock(0, 6, 0)},
                NONE, NONE, NONE, NONE);
            s.dueAll(new int[] {x.stock(0, 0, -1), x.stock(0, 0, 4), x.stock(0, 0, MIN), x.stock(0, MAX, 0)},
                NONE, NONE, NONE, NONE);
        });
    }

    private void bow() {
        s.section("Promise 21");
        s.test("Gives a bar a bowing, or takes it away", x -> {
            x.edition(0, 3, 1);
            x.bow(0, 3, 1, 4);
            x.bow(0, 3, 3, 1);
            dueBowings(x, 0, 3, 4, 0, 1);
            x.bow(0, 3, 1, 0);
            dueBowings(x, 0, 3, 0, 0, 1);
            s.due(x.ofEdition(0, 5), 1);
        });
        s.test("`instrument`: the instrument, a string one", x -> {
            x.edition(0, 3, 1);
            s.dueAll(new int[] {x.bow(0, 0, 1, 1), x.bow(0, 3, 1, 1), x.bow(0, 4, 1, 1)}, 0, 0, NONE);
            s.due(x.ofEdition(0, 5), 2);
        });
        s.test("`bowing`: the bowing, or 0 to take it away", x -> {
            x.edition(0, 3, 1);
            s.dueAll(new int[] {x.bow(0, 0, 1, 0), x.bow(0, 0, 1, 4), x.bow(0, 0, 1, 0), x.bow(0, 0, 1, 0)}, 0, 0, 4, 0);
        });
        s.test("Returns the bowing before, 0 for none", x -> {
            x.edition(0, 3, 1);
            s.dueAll(new int[] {x.bow(0, 0, 1, 1), x.bow(0, 0, 1, 4), x.bow(0, 0, 1, 4), x.bow(0, 0, 2, 4)}, 0, 1, 4, 0);
            s.due(x.bow(0, 1, 1, 2), 0);
        });
        s.test("NONE, also for winds", x -> {
            s.due(x.bow(0, 0, 1, 1), NONE);
            x.edition(0, 3, 1);
            s.dueAll(new int[] {x.bow(0, 4, 1, 1), x.bow(0, 5, 1, 1), x.bow(0, 6, 1, 1), x.bow(0, -1, 1, 1)},
                NONE, NONE, NONE, NONE);
            s.dueAll(new int[] {x.bow(-1, 0, 1, 1), x.bow(1, 0, 1, 1), x.bow(0, 0, 0, 1), x.bow(0, 0, 4, 1)},
                NONE, NONE, NONE, NONE);
            s.dueAll(new int[] {x.bow(0, 4, 1, 5), x.bow(0, 0, 4, -1), x.bow(0, MAX, 1, 1), x.bow(0, 0, MIN, 1)},
                NONE, NONE, NONE, NONE);
        });
        s.test("BAD", x -> {
            x.edition(0, 3, 1);
            x.bow(0, 0, 1, 2);
            s.dueAll(new int[] {x.bow(0, 0, 1, -1), x.bow(0, 0, 1, 5), x.bow(0, 0, 1, MIN), x.bow(0, 0, 1, MAX)},
                BAD, BAD, BAD, BAD);
            s.due(x.bowing(0, 0, 1), 2);
        });
    }

    private void bowing() {
        s.section("Promise 22");
        s.namesNoBoundary("Returns the bowing of a bar");
        s.test("`instrument`: the instrument, a string one", x -> {
            x.edition(0, 1, 1);
            s.dueAll(new int[] {x.bowing(0, 0, 1), x.bowing(0, 3, 1), x.bowing(0, 4, 1)}, 0, 0, NONE);
        });
        s.test("Returns the bowing, 0 for none", x -> {
            x.edition(0, 2, 1);
            x.bow(0, 1, 2, 4);
            s.dueAll(new int[] {x.bowing(0, 1, 1), x.bowing(0, 1, 2), x.bowing(0, 0, 2)}, 0, 4, 0);
            x.bow(0, 1, 2, 0);
            s.due(x.bowing(0, 1, 2), 0);
        });
        s.test("NONE, also for winds", x -> {
            s.due(x.bowing(0, 0, 1), NONE);
            x.edition(0, 2, 1);
            s.dueAll(new int[] {x.bowing(0, 4, 1), x.bowing(0, 5, 1), x.bowing(0, 6, 1), x.bowing(0, -1, 1)},
                NONE, NONE, NONE, NONE);
            s.dueAll(new int[] {x.bowing(-1, 0, 1), x.bowing(1, 0, 1), x.bowing(0, 0, 0), x.bowing(0, 0, 3)},
                NONE, NONE, NONE, NONE);
            s.dueAll(new int[] {x.bowing(MAX, 0, 1), x.bowing(0, MIN, 1), x.bowing(0, 0, MAX)}, NONE, NONE, NONE);
        });
    }

    private void copyBowings() {
        s.section("Promise 23");
        s.namesNoBoundary("Copies the bowings of an instrument from an edition to another one");
        s.test("`instrument`: the instrument, a string one", x -> {
            two(x);
            s.dueAll(new int[] {x.copyBowings(0, 1, 0, 0), x.copyBowings(0, 1, 3, 0), x.copyBowings(0, 1, 4, 0)},
                0, 0, NONE);
        });
        s.test("`mode`: 0 if bowings stay at clashes, 1 if they are put in place of others", x -> {
            two(x);
            x.bow(0, 2, 1, 1);
            x.bow(0, 2, 5, 1);
            x.bow(1, 2, 1, 2);
            s.due(x.copyBowings(0, 1, 2, 0), 1);
            dueBowings(x, 1, 2, 2, 0, 0, 0, 1);
            s.due(x.copyBowings(0, 1, 2, 1), 1);
            dueBowings(x, 1, 2, 1, 0, 0, 0, 1);
        });
        s.test("Returns the number of bowings that were put", x -> {
            x.edition(0, 99, 1);
            x.derive(0);
            s.due(x.copyBowings(0, 1, 3, 0), 0);
            for (int bar = 1; bar <= 99; bar++) {
                x.bow(0, 3, bar, 1 + bar % 4);
            }
            x.bow(1, 3, 4, 1);
            x.bow(1, 3, 5, 1);
            s.due(x.copyBowings(0, 1, 3, 0), 97);
            s.due(x.copyBowings(0, 1, 3, 1), 1);
            s.due(x.copyBowings(0, 1, 3, 1), 0);
        });
        s.test("NONE, also for winds", x -> {
            s.due(x.copyBowings(0, 1, 0, 0), NONE);
            two(x);
            s.dueAll(new int[] {x.copyBowings(0, 1, 4, 0), x.copyBowings(0, 1, 5, 0), x.copyBowings(0, 1, 6, 0),
                x.copyBowings(0, 1, -1, 0)}, NONE, NONE, NONE, NONE);
            s.dueAll(new int[] {x.copyBowings(-1, 1, 0, 0), x.copyBowings(2, 1, 0, 0), x.copyBowings(0, -1, 0, 0),
                x.copyBowings(0, 2, 0, 0)}, NONE, NONE, NONE, NONE);
            s.dueAll(new int[] {x.copyBowings(0, 0, 4, 0), x.copyBowings(2, 2, 0, 0), x.copyBowings(0, 1, 4, 2)},
                NONE, NONE, NONE);
        });
        s.test("BAD if both editions are the same, the works are different, or the mode is not 0 or 1", x -> {
            two(x);
            x.edition(1, 5, 1);
            x.bow(0, 0, 1, 1);
            s.dueAll(new int[] {x.copyBowings(0, 0, 0, 0), x.copyBowings(0, 2, 0, 0), x.copyBowings(2, 1, 0, 0)},
                BAD, BAD, BAD);
            s.dueAll(new int[] {x.copyBowings(0, 1, 0, -1), x.copyBowings(0, 1, 0, 2), x.copyBowings(0, 1, 0, MAX)},
                BAD, BAD, BAD);
            dueBowings(x, 1, 0, 0, 0, 0, 0, 0);
            dueBowings(x, 2, 0, 0, 0, 0, 0, 0);
        });
    }

    private void copied() {
        s.section("Promise 24");
        s.test("Returns a number of the latest call of copyBowings that returned no error code", x -> {
            two(x);
            x.bow(0, 0, 1, 1);
            s.due(x.copyBowings(0, 1, 0, 0), 1);
            s.due(x.copyBowings(0, 1, 0, 2), BAD);
            s.due(x.copyBowings(0, 1, 4, 0), NONE);
            dueCopied(x, 1, 0, 0, 0);
            s.due(x.copyBowings(0, 1, 0, 0), 0);
            dueCopied(x, 0, 0, 0, 0);
        });
        s.test("a number of the latest call of copyBowings", x -> {
            two(x);
            x.cut(1, 5, 5);
            x.rework(1, 1, 1);
            x.bow(0, 0, 1, 1);
            x.bow(0, 0, 2, 1);
            x.bow(0, 0, 5, 1);
            x.bow(1, 0, 2, 2);
            x.bow(0, 3, 4, 1);
            s.due(x.copyBowings(0, 1, 0, 0), 1);
            dueCopied(x, 1, 1, 1, 1);
            s.due(x.copyBowings(0, 1, 3, 0), 1);
            dueCopied(x, 1, 0, 0, 0);
            s.due(x.copyBowings(0, 1, 2, 0), 0);
            dueCopied(x, 0, 0, 0, 0);
        });
        s.test("`what`: 0 for the bowings that were put, 1 for those that were dropped, 2 for the clashes", x -> {
            x.edition(0, 9, 1);
            x.derive(0);
            for (int bar = 1; bar <= 9; bar++) {
                x.bow(0, 0, bar, 1);
            }
            x.cut(1, 1, 2);
            x.bow(1, 0, 1, 2);
            x.bow(1, 0, 2, 2);
            x.bow(1, 0, 3, 3);
            x.bow(1, 0, 4, 1);
            x.rework(1, 5, 1);
            s.due(x.copyBowings(0, 1, 0, 1), 6);
            dueCopied(x, 6, 2, 3, 1);
        });
        s.test("Returns the number, or NOTHING if there was no such call", x -> {
            two(x);
            dueCopied(x, NOTHING, NOTHING, NOTHING, NOTHING);
            x.copyBowings(0, 0, 0, 0);
            x.copyBowings(0, 1, 5, 0);
            dueCopied(x, NOTHING, NOTHING, NOTHING, NOTHING);
            x.copyBowings(0, 1, 0, 0);
            dueCopied(x, 0, 0, 0, 0);
        });
        s.test("NONE", x -> {
            s.dueAll(new int[] {x.copied(-1), x.copied(4), x.copied(MIN), x.copied(MAX)}, NONE, NONE, NONE, NONE);
            two(x);
            x.copyBowings(0, 1, 0, 0);
            s.dueAll(new int[] {x.copied(-1), x.copied(4), x.copied(MIN), x.copied(MAX)}, NONE, NONE, NONE, NONE);
        });
    }
}
