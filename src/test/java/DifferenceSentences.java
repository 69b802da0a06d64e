/** The sentences about differences, and those of promises 10 and 11. */
final class DifferenceSentences implements Codes {
    private final Sentences s;

    DifferenceSentences(Sentences sentences) {
        s = sentences;
    }

    void testAll() {
        kinds();
        order();
        compare();
        difference();
    }

    /** The differences of two editions, four numbers each: kind, bar of the first one, of the second one, length. */
    private void dueRuns(OrchestraLibrary x, int one, int other, int... want) {
        s.due(x.compare(one, other, 4), want.length / 4);
        for (int i = 0; i < want.length; i++) {
            s.due(x.difference(one, other, i / 4, i % 4), want[i]);
        }
        s.due(x.difference(one, other, want.length / 4, 0), NOTHING);
    }

    /** Editions 0 and 1 of one work with the bars 1 to 9 in common. */
    private static void two(OrchestraLibrary x) {
        x.edition(0, 9, 1);
        x.derive(0);
    }

    private void kinds() {
        s.section("Differences");
        s.test("Two bars of two editions that have the same origin face one another", x -> {
            two(x);
            x.edition(1, 9, 1);
            x.cut(0, 1, 1);
            x.insert(0, 0, 1, 1);
            x.rework(1, 9, 2);
            s.due(x.compare(0, 1, 0), 8);
            s.due(x.compare(1, 0, 0), 8);
            s.due(x.compare(0, 2, 0), BAD);
            x.cut(0, 2, 9);
            s.due(x.compare(0, 1, 0), 0);
        });
        s.test("1, a longest run of bars of the first edition that face none", x -> {
            two(x);
            x.cut(1, 2, 4);
            x.cut(1, 3, 3);
            x.cut(1, 5, 5);
            dueRuns(x, 0, 1, 1, 2, 1, 3, 1, 6, 2, 1, 1, 9, 4, 1);
            x.insert(0, 1, 2, 1);
            dueRuns(x, 0, 1, 1, 2, 1, 5, 1, 8, 2, 1, 1, 11, 4, 1);
        });
        s.test("2, a longest run of bars of the second edition that face none", x -> {
            two(x);
            x.cut(0, 2, 4);
            x.cut(0, 3, 3);
            x.cut(0, 5, 5);
            dueRuns(x, 0, 1, 2, 1, 2, 3, 2, 2, 6, 1, 2, 4, 9, 1);
            x.insert(1, 1, 2, 1);
            dueRuns(x, 0, 1, 2, 1, 2, 5, 2, 2, 8, 1, 2, 4, 11, 1);
        });
        s.test("3, a longest run of bars that face one another and have different versions", x -> {
            two(x);
            for (int bar = 2; bar <= 9; bar++) {
                x.rework(bar % 2, bar, 2);
            }
            dueRuns(x, 0, 1, 3, 2, 2, 8);
            x.cut(1, 4, 4);
            dueRuns(x, 0, 1, 3, 2, 2, 2, 1, 4, 3, 1, 3, 5, 4, 5);
            dueRuns(x, 1, 0, 3, 2, 2, 2, 2, 3, 4, 1, 3, 4, 5, 5);
        });
        s.test("different versions, without other bars between them in either edition", x -> {
            two(x);
            for (int bar = 1; bar <= 9; bar++) {
                x.rework(0, bar, 2);
            }
            x.insert(1, 3, 1, 1);
            dueRuns(x, 0, 1, 3, 1, 1, 3, 2, 3, 4, 1, 3, 4, 5, 6);
            x.insert(0, 6, 1, 1);
            dueRuns(x, 0, 1, 3, 1, 1, 3, 2, 3, 4, 1, 3, 4, 5, 3, 1, 7, 7, 1, 3, 8, 8, 3);
        });
        s.test("different versions", x -> {
            two(x);
            x.rework(0, 4, 2);
            x.derive(0);
            x.rework(0, 3, 2);
            x.rework(0, 5, 2);
            dueRuns(x, 0, 2, 3, 3, 3, 1, 3, 5, 5, 1);
            dueRuns(x, 0, 1, 3, 3, 3, 3);
            dueRuns(x, 2, 1, 3, 4, 4, 1);
        });
    }

    private void order() {
        s.test("They are in the order of the bars", x -> {
            two(x);
            x.insert(1, 9, 1, 1);
            x.cut(1, 7, 7);
            x.rework(0, 5, 1);
            x.insert(1, 3, 2, 1);
            x.cut(1, 1, 1);
            dueRuns(x, 0, 1, 1, 1, 0, 1, 2, 3, 3, 2, 3, 5, 6, 1, 1, 7, 7, 1, 2, 9, 10, 1);
        });
        s.test("where a run of kind 1 and one of kind 2 stand between the same two facing bars", x -> {
            two(x);
            x.insert(1, 4, 3, 1);
            x.insert(0, 4, 2, 1);
            dueRuns(x, 0, 1, 1, 5, 4, 2, 2, 6, 5, 3);
            dueRuns(x, 1, 0, 1, 5, 4, 3, 2, 7, 5, 2);
        });
        s.test("or at the beginning or at the end, the run of kind 1 comes first", x -> {
            two(x);
            x.insert(1, 0, 3, 1);
            x.insert(0, 0, 2, 1);
            x.insert(1, 12, 1, 1);
            x.insert(0, 11, 4, 1);
            dueRuns(x, 0, 1, 1, 1, 0, 2, 2, 2, 1, 3, 1, 12, 12, 4, 2, 15, 13, 1);
        });
        s.test("A run begins with a bar of each edition", x -> {
            two(x);
            x.insert(1, 1, 1, 1);
            x.rework(0, 1, 1);
            x.rework(0, 8, 1);
            x.rework(0, 9, 1);
            dueRuns(x, 0, 1, 3, 1, 1, 1, 2, 1, 2, 1, 3, 8, 9, 2);
            dueRuns(x, 1, 0, 3, 1, 1, 1, 1, 2, 1, 1, 3, 9, 8, 2);
        });
        s.test("for the kinds 1 and 2, the bar of the edition in which the run is not is the one behind", x -> {
            two(x);
            x.cut(1, 9, 9);
            x.cut(1, 5, 6);
            dueRuns(x, 0, 1, 1, 5, 4, 2, 1, 9, 6, 1);
            dueRuns(x, 1, 0, 2, 4, 5, 2, 2, 6, 9, 1);
        });
        s.test("would stand, or 0 at the beginning", x -> {
            two(x);
            x.cut(1, 1, 2);
            dueRuns(x, 0, 1, 1, 1, 0, 2);
            dueRuns(x, 1, 0, 2, 0, 1, 2);
        });
    }

    private void compare() {
        s.section("Promise 10");
        s.namesNoBoundary("Compares two editions");
        s.test("`other`: another one, possibly the same", x -> {
            two(x);
            x.rework(0, 2, 1);
            x.insert(0, 0, 1, 1);
            int[] of = new int[5];
            for (int what = 0; what < 5; what++) {
                of[what] = x.compare(0, 0, what);
            }
            s.dueAll(of, 10, 10, 0, 0, 0);
        });
        s.test("`what`: 0 for the bars that face one another, counted once for both, 1 for those of them", x -> {
            two(x);
            x.cut(1, 1, 1);
            x.rework(1, 1, 1);
            x.insert(1, 8, 4, 1);
            x.cut(0, 8, 8);
            int[] of = new int[5];
            int[] back = new int[5];
            for (int what = 0; what < 5; what++) {
                of[what] = x.compare(0, 1, what);
                back[what] = x.compare(1, 0, what);
            }
            s.dueAll(of, 7, 6, 1, 5, 4);
            s.dueAll(back, 7, 6, 5, 1, 4);
        });
        s.test("Returns the number", x -> {
            x.edition(0, 99, 1);
            x.derive(0);
            for (int bar = 1; bar <= 99; bar += 2) {
                x.rework(1, bar, 1);
            }
            s.dueAll(new int[] {x.compare(0, 1, 0), x.compare(0, 1, 1), x.compare(0, 1, 4)}, 99, 49, 50);
        });
        s.test("NONE", x -> {
            s.due(x.compare(0, 0, 0), NONE);
            two(x);
            s.dueAll(new int[] {x.compare(-1, 0, 0), x.compare(2, 0, 0), x.compare(0, -1, 0), x.compare(0, 2, 0)},
                NONE, NONE, NONE, NONE);
            s.dueAll(new int[] {x.compare(0, 1, -1), x.compare(0, 1, 5), x.compare(0, 1, MIN), x.compare(0, 1, MAX)},
                NONE, NONE, NONE, NONE);
            x.edition(1, 3, 1);
            s.due(x.compare(0, 2, 5), NONE);
        });
        s.test("BAD if the works are different", x -> {
            two(x);
            x.edition(1, 9, 1);
            for (int what = 0; what < 5; what++) {
                s.due(x.compare(0, 2, what), BAD);
                s.due(x.compare(2, 1, what), BAD);
            }
            s.due(x.compare(0, 1, 0), 9);
        });
    }

    private void difference() {
        s.section("Promise 11");
        s.namesNoBoundary("Returns a number of a difference of two editions");
        s.test("`other`: another one, possibly the same", x -> {
            two(x);
            x.rework(0, 2, 1);
            for (int what = 0; what < 4; what++) {
                s.due(x.difference(0, 0, 0, what), NOTHING);
            }
        });
        s.test("`index`: the place of the difference, from 0", x -> {
            two(x);
            x.rework(0, 2, 1);
            x.rework(0, 4, 1);
            s.dueAll(new int[] {x.difference(0, 1, 0, 1), x.difference(0, 1, 1, 1)}, 2, 4);
        });
        s.test("`what`: 0 for its kind, 1 for the bar of the first edition with which it begins", x -> {
            two(x);
            x.insert(0, 0, 3, 1);
            x.rework(0, 9, 1);
            x.rework(0, 10, 1);
            int[] of = new int[4];
            for (int what = 0; what < 4; what++) {
                of[what] = x.difference(0, 1, 1, what);
            }
            s.dueAll(of, 3, 9, 6, 2);
        });
        s.test("Returns the number, or NOTHING if there are not as many", x -> {
            two(x);
            s.due(x.difference(0, 1, 0, 0), NOTHING);
            x.rework(0, 2, 1);
            s.dueAll(new int[] {x.difference(0, 1, 0, 0), x.difference(0, 1, 1, 0), x.difference(0, 1, MAX, 3)},
                3, NOTHING, NOTHING);
        });
        s.test("the number, or NOTHING if there are not as many", x -> {
            x.edition(0, 99, 1);
            x.derive(0);
            for (int bar = 1; bar <= 99; bar += 2) {
                x.rework(1, bar, 1);
            }
            s.dueAll(new int[] {x.difference(0, 1, 49, 1), x.difference(0, 1, 49, 3), x.difference(0, 1, 50, 1)},
                99, 1, NOTHING);
        });
        s.test("or NOTHING if there are not as many", x -> {
            // As many as two editions of 99 bars can have: each facing pair between bars that face none.
            x.edition(0, 49, 1);
            x.derive(0);
            for (int bar = 1; bar <= 49; bar++) {
                x.rework(1, bar, 1);
            }
            for (int bar = 49; bar >= 0; bar--) {
                x.insert(0, bar, 1, 1);
                x.insert(1, bar, 1, 1);
            }
            s.dueAll(new int[] {x.compare(0, 1, 0), x.compare(0, 1, 1), x.compare(0, 1, 4)}, 49, 0, 149);
            for (int index = 0; index < 149; index++) {
                s.due(x.difference(0, 1, index, 0), 1 + index % 3);
                s.due(x.difference(0, 1, index, 2), index / 3 * 2 + index % 3);
            }
            s.dueAll(new int[] {x.difference(0, 1, 148, 1), x.difference(0, 1, 148, 3), x.difference(0, 1, 149, 0)},
                99, 1, NOTHING);
        });
        s.test("NONE, also if the index is below 0", x -> {
            s.due(x.difference(0, 0, 0, 0), NONE);
            two(x);
            x.rework(0, 1, 1);
            s.dueAll(new int[] {x.difference(0, 1, -1, 0), x.difference(0, 1, MIN, 0)}, NONE, NONE);
            s.dueAll(new int[] {x.difference(-1, 0, 0, 0), x.difference(2, 0, 0, 0), x.difference(0, 2, 0, 0)},
                NONE, NONE, NONE);
            s.dueAll(new int[] {x.difference(0, -1, 0, 0), x.difference(0, 1, 0, -1), x.difference(0, 1, 0, 4)},
                NONE, NONE, NONE);
            s.dueAll(new int[] {x.difference(0, 1, 99, 4), x.difference(0, 1, 0, MAX)}, NONE, NONE);
            x.edition(1, 3, 1);
            s.dueAll(new int[] {x.difference(0, 2, -1, 0), x.difference(0, 2, 0, 4)}, NONE, NONE);
        });
        s.test("BAD if the works are different", x -> {
            two(x);
            x.edition(1, 9, 1);
            s.dueAll(new int[] {x.difference(0, 2, 0, 0), x.difference(2, 0, 0, 3), x.difference(2, 1, 99, 0)},
                BAD, BAD, BAD);
        });
    }
}
