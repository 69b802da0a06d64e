/** The sentences about boxes, and those of promises 32 to 35. */
final class BoxSentences implements Codes {
    private final Sentences s;

    BoxSentences(Sentences sentences) {
        s = sentences;
    }

    void testAll() {
        boxes();
        box();
        put();
        look();
        likeBox();
    }

    private static void twoEditions(OrchestraLibrary x) {
        x.edition(0, 4, 4);
        x.derive(0);
    }

    private void dueThing(OrchestraLibrary x, int box, int place, int edition, int instrument) {
        s.dueAll(new int[] {x.look(box, place, 0), x.look(box, place, 1)}, edition, instrument);
    }

    private void boxes() {
        s.section("Boxes");
        s.test("There are 3 boxes, which have no places at first", x -> {
            twoEditions(x);
            for (int box = 0; box < 3; box++) {
                s.due(x.look(box, 0, 0), NONE);
                s.due(x.put(box, 0, 0, 0), NONE);
            }
            s.dueAll(new int[] {x.box(-1, 0, 1), x.box(0, 0, 1), x.box(2, 0, 1), x.box(3, 0, 1)}, NONE, 0, 0, NONE);
        });
        s.test("A box is for things of a sort, 0 scores and parts, 1 scores, 2 parts, 3 parts of strings", x -> {
            twoEditions(x);
            int[][] answers = {{1, 1, 1, 1, 1}, {1, UNLIKE, UNLIKE, UNLIKE, UNLIKE}, {UNLIKE, 1, 1, 1, 1},
                {UNLIKE, 1, 1, UNLIKE, UNLIKE}};
            for (int sort = 0; sort < 4; sort++) {
                x.box(0, sort, 5);
                s.dueAll(new int[] {x.put(0, 0, 0, -1), x.put(0, 1, 0, 0), x.put(0, 2, 0, 3), x.put(0, 3, 0, 4),
                    x.put(0, 4, 0, 5)}, answers[sort]);
            }
        });
        s.test("and has 0 to 8 places, which are empty at first", x -> {
            twoEditions(x);
            s.dueAll(new int[] {x.box(0, 0, -1), x.box(0, 0, 9), x.box(0, 0, 0), x.look(0, 0, 0)}, BAD, BAD, 0, NONE);
            x.box(0, 0, 8);
            for (int place = 0; place < 8; place++) {
                dueThing(x, 0, place, NOTHING, NOTHING);
            }
            s.due(x.look(0, 8, 0), NONE);
        });
        s.test("A thing is the score of an edition, or the part of an edition for an instrument", x -> {
            twoEditions(x);
            x.box(0, 0, 3);
            s.dueAll(new int[] {x.put(0, 0, 1, -1), x.put(0, 1, 0, 0), x.put(0, 2, 1, 5)}, 1, 1, 1);
            dueThing(x, 0, 0, 1, -1);
            dueThing(x, 0, 1, 0, 0);
            dueThing(x, 0, 2, 1, 5);
            s.dueAll(new int[] {x.put(0, 0, 0, -2), x.put(0, 0, 0, 6), x.put(0, 0, 2, -1)}, NONE, NONE, NONE);
        });
        s.test("Copies and loans do not matter for boxes", x -> {
            twoEditions(x);
            x.box(0, 0, 8);
            x.box(1, 0, 8);
            s.dueAll(new int[] {x.put(0, 0, 0, 2), x.put(0, 1, 0, 2), x.put(1, 0, 0, 2)}, 1, 1, 1);
            x.buy(0, 2, 1);
            x.lend(0, 0, 2, 1, 0);
            x.bring(0, 0, 1);
            s.dueAll(new int[] {x.put(0, 2, 0, 2), x.stock(0, 2, 1), x.stock(0, 2, 0)}, 1, 0, 1);
            dueThing(x, 0, 0, 0, 2);
        });
    }

    private void box() {
        s.section("Promise 32");
        s.test("Makes a box anew, with empty places", x -> {
            twoEditions(x);
            x.box(1, 2, 8);
            x.put(1, 0, 0, 0);
            x.put(1, 7, 0, 0);
            x.box(1, 1, 8);
            dueThing(x, 1, 0, NOTHING, NOTHING);
            dueThing(x, 1, 7, NOTHING, NOTHING);
            s.dueAll(new int[] {x.put(1, 0, 0, 0), x.put(1, 0, 0, -1)}, UNLIKE, 1);
            x.box(1, 0, 1);
            s.due(x.look(1, 1, 0), NONE);
            x.box(1, 0, 2);
            dueThing(x, 1, 0, NOTHING, NOTHING);
        });
        s.test("Returns the number of things that were in it", x -> {
            twoEditions(x);
            s.due(x.box(2, 0, 8), 0);
            for (int place = 0; place < 8; place++) {
                x.put(2, place, 0, 0);
            }
            s.dueAll(new int[] {x.box(2, 0, 8), x.box(2, 0, 8), x.put(2, 5, 0, 0), x.put(2, 5, 0, 1), x.box(2, 0, 0)},
                8, 0, 1, 0, 1);
            s.due(x.box(2, 0, 8), 0);
        });
        s.test("NONE", x -> {
            s.dueAll(new int[] {x.box(-1, 0, 1), x.box(3, 0, 1), x.box(MIN, 0, 1), x.box(MAX, 0, 1), x.box(3, 4, 9)},
                NONE, NONE, NONE, NONE, NONE);
        });
        s.test("BAD", x -> {
            twoEditions(x);
            x.box(0, 0, 2);
            x.put(0, 1, 0, 0);
            s.dueAll(new int[] {x.box(0, -1, 1), x.box(0, 4, 1), x.box(0, MIN, 1), x.box(0, MAX, 1)}, BAD, BAD, BAD, BAD);
            s.dueAll(new int[] {x.box(0, 0, -1), x.box(0, 0, 9), x.box(0, 0, MIN), x.box(0, 0, MAX)}, BAD, BAD, BAD, BAD);
            dueThing(x, 0, 1, 0, 0);
        });
    }

    private void put() {
        s.section("Promise 33");
        s.test("Puts a thing into a place of a box, in place of what is there", x -> {
            twoEditions(x);
            x.box(0, 0, 2);
            x.put(0, 0, 0, 0);
            x.put(0, 1, 1, 4);
            x.put(0, 1, 0, -1);
            dueThing(x, 0, 0, 0, 0);
            dueThing(x, 0, 1, 0, -1);
            s.due(x.likeBox(0, 0), 2);
        });
        s.test("`place`: the place, from 0", x -> {
            twoEditions(x);
            x.box(0, 0, 2);
            s.dueAll(new int[] {x.put(0, -1, 0, 0), x.put(0, 0, 0, 0), x.put(0, 1, 0, 0), x.put(0, 2, 0, 0)},
                NONE, 1, 1, NONE);
        });
        s.test("`instrument`: the instrument of the part, or -1 for the score", x -> {
            twoEditions(x);
            x.box(0, 0, 1);
            s.dueAll(new int[] {x.put(0, 0, 0, -2), x.put(0, 0, 0, -1), x.put(0, 0, 0, 5), x.put(0, 0, 0, 6)},
                NONE, 1, 0, NONE);
            dueThing(x, 0, 0, 0, 5);
        });
        s.test("Returns 1 if the place was empty, otherwise 0", x -> {
            twoEditions(x);
            x.box(0, 0, 2);
            s.dueAll(new int[] {x.put(0, 0, 0, 0), x.put(0, 0, 0, 0), x.put(0, 1, 0, 0), x.put(0, 0, 1, -1)}, 1, 0, 1, 0);
        });
        s.test("NONE", x -> {
            s.due(x.put(0, 0, 0, 0), NONE);
            x.box(0, 0, 8);
            s.due(x.put(0, 0, 0, 0), NONE);
            twoEditions(x);
            s.dueAll(new int[] {x.put(-1, 0, 0, 0), x.put(3, 0, 0, 0), x.put(1, 0, 0, 0), x.put(0, 8, 0, 0)},
                NONE, NONE, NONE, NONE);
            s.dueAll(new int[] {x.put(0, 0, -1, 0), x.put(0, 0, 2, 0), x.put(0, 0, 0, MIN), x.put(0, 0, 0, MAX)},
                NONE, NONE, NONE, NONE);
            s.dueAll(new int[] {x.put(0, MIN, 0, 0), x.put(0, MAX, 0, 0), x.put(MAX, 0, 0, 0), x.put(0, 0, MAX, 0)},
                NONE, NONE, NONE, NONE);
            x.box(0, 1, 1);
            s.dueAll(new int[] {x.put(0, 1, 0, 0), x.put(0, 0, 2, 0), x.put(0, 0, 0, 6)}, NONE, NONE, NONE);
        });
        s.test("UNLIKE", x -> {
            twoEditions(x);
            x.box(0, 1, 1);
            x.put(0, 0, 1, -1);
            s.due(x.put(0, 0, 0, 0), UNLIKE);
            dueThing(x, 0, 0, 1, -1);
            x.box(0, 2, 1);
            s.due(x.put(0, 0, 0, -1), UNLIKE);
            dueThing(x, 0, 0, NOTHING, NOTHING);
            x.box(0, 3, 1);
            s.dueAll(new int[] {x.put(0, 0, 0, -1), x.put(0, 0, 0, 4), x.put(0, 0, 0, 5), x.put(0, 0, 0, 3)},
                UNLIKE, UNLIKE, UNLIKE, 1);
        });
    }

    private void look() {
        s.section("Promise 34");
        s.namesNoBoundary("Returns a number of the thing in a place of a box");
        s.test("`place`: the place, from 0", x -> {
            x.box(0, 0, 1);
            s.dueAll(new int[] {x.look(0, -1, 0), x.look(0, 0, 0), x.look(0, 1, 0)}, NONE, NOTHING, NONE);
        });
        s.test("`what`: 0 for its edition, 1 for its instrument, -1 for a score", x -> {
            twoEditions(x);
            x.box(0, 0, 2);
            x.put(0, 0, 1, 3);
            x.put(0, 1, 0, -1);
            s.dueAll(new int[] {x.look(0, 0, 0), x.look(0, 0, 1), x.look(0, 1, 0), x.look(0, 1, 1)}, 1, 3, 0, -1);
        });
        s.test("Returns the number, or NOTHING if the place is empty", x -> {
            twoEditions(x);
            x.box(0, 0, 8);
            x.put(0, 7, 0, 0);
            dueThing(x, 0, 6, NOTHING, NOTHING);
            dueThing(x, 0, 7, 0, 0);
        });
        s.test("NONE", x -> {
            s.due(x.look(0, 0, 0), NONE);
            x.box(0, 0, 2);
            s.dueAll(new int[] {x.look(-1, 0, 0), x.look(3, 0, 0), x.look(1, 0, 0), x.look(0, 2, 0), x.look(0, -1, 0)},
                NONE, NONE, NONE, NONE, NONE);
            s.dueAll(new int[] {x.look(0, 0, -1), x.look(0, 0, 2), x.look(0, MIN, 0), x.look(0, MAX, 0),
                x.look(MAX, 0, 0), x.look(0, 0, MAX)}, NONE, NONE, NONE, NONE, NONE, NONE);
            x.edition(0, 1, 1);
            x.put(0, 0, 0, 0);
            s.dueAll(new int[] {x.look(0, 0, -1), x.look(0, 0, 2)}, NONE, NONE);
        });
    }

    private void likeBox() {
        s.section("Promise 35");
        s.test("Makes a box like another one, with a row of places of its own", x -> {
            twoEditions(x);
            x.box(0, 2, 3);
            x.put(0, 0, 1, 5);
            x.box(2, 1, 8);
            x.put(2, 7, 0, -1);
            s.due(x.likeBox(0, 2), 1);
            dueThing(x, 2, 0, 1, 5);
            s.dueAll(new int[] {x.look(2, 2, 0), x.look(2, 3, 0), x.put(2, 1, 0, -1)}, NOTHING, NONE, UNLIKE);
            x.put(2, 0, 0, 1);
            x.put(0, 2, 0, 3);
            dueThing(x, 0, 0, 1, 5);
            dueThing(x, 2, 0, 0, 1);
            dueThing(x, 2, 2, NOTHING, NOTHING);
        });
        s.test("`to`: the box that becomes like it, possibly the same", x -> {
            twoEditions(x);
            x.box(1, 2, 3);
            x.put(1, 2, 1, 5);
            s.due(x.likeBox(1, 1), 1);
            dueThing(x, 1, 2, 1, 5);
            s.dueAll(new int[] {x.look(1, 0, 0), x.look(1, 3, 0), x.put(1, 0, 0, -1)}, NOTHING, NONE, UNLIKE);
        });
        s.test("Returns the number of things in it", x -> {
            twoEditions(x);
            x.box(0, 0, 8);
            for (int place = 0; place < 8; place++) {
                x.put(0, place, 0, 0);
            }
            x.box(1, 0, 3);
            s.dueAll(new int[] {x.likeBox(1, 2), x.likeBox(0, 2), x.likeBox(2, 2), x.likeBox(1, 2), x.likeBox(0, 0)},
                0, 8, 8, 0, 8);
        });
        s.test("NONE", x -> {
            s.dueAll(new int[] {x.likeBox(-1, 0), x.likeBox(3, 0), x.likeBox(0, -1), x.likeBox(0, 3)},
                NONE, NONE, NONE, NONE);
            s.dueAll(new int[] {x.likeBox(MIN, 0), x.likeBox(0, MAX), x.likeBox(0, 1)}, NONE, NONE, 0);
        });
    }
}
