/** The sentences about tempos and durations, and those of promises 12 to 16. */
final class TempoSentences implements Codes {
    private final Sentences s;

    TempoSentences(Sentences sentences) {
        s = sentences;
    }

    void testAll() {
        tempos();
        durations();
        tempo();
        seconds();
        length();
        barAt();
        pace();
    }

    private void tempos() {
        s.section("Tempos");
        s.test("A bar of an edition can have a tempo of its own, told in tenths from 200 to 2500", x -> {
            x.edition(0, 3, 1);
            s.dueAll(new int[] {x.tempo(0, 1, 199), x.tempo(0, 1, 2501)}, BAD, BAD);
            s.due(x.bar(0, 1, 3), NOTHING);
            s.dueAll(new int[] {x.tempo(0, 1, 200), x.tempo(0, 3, 2500)}, NOTHING, NOTHING);
            s.dueAll(new int[] {x.bar(0, 1, 3), x.bar(0, 2, 3), x.bar(0, 3, 3)}, 200, NOTHING, 2500);
        });
        s.test("The tempo that counts for a bar is its own one, or, without one, that of the bar before it", x -> {
            x.edition(0, 99, 1);
            s.dueAll(new int[] {x.bar(0, 1, 4), x.bar(0, 99, 4)}, 1000, 1000);
            x.tempo(0, 2, 700);
            x.tempo(0, 98, 800);
            s.dueAll(new int[] {x.bar(0, 1, 4), x.bar(0, 2, 4), x.bar(0, 3, 4), x.bar(0, 97, 4)}, 1000, 700, 700, 700);
            s.dueAll(new int[] {x.bar(0, 98, 4), x.bar(0, 99, 4)}, 800, 800);
            x.cut(0, 1, 2);
            s.dueAll(new int[] {x.bar(0, 1, 4), x.bar(0, 95, 4), x.bar(0, 96, 4)}, 1000, 1000, 800);
            x.tempo(0, 1, 300);
            s.dueAll(new int[] {x.bar(0, 1, 4), x.bar(0, 95, 4)}, 300, 300);
        });
        s.test("An inserted bar has no tempo of its own", x -> {
            x.edition(0, 2, 1);
            x.tempo(0, 1, 500);
            x.tempo(0, 2, 600);
            x.insert(0, 1, 1, 1);
            x.insert(0, 0, 1, 1);
            s.dueAll(new int[] {x.bar(0, 1, 3), x.bar(0, 2, 3), x.bar(0, 3, 3), x.bar(0, 4, 3)},
                NOTHING, 500, NOTHING, 600);
            s.dueAll(new int[] {x.bar(0, 1, 4), x.bar(0, 3, 4), x.ofEdition(0, 6)}, 1000, 500, 2);
        });
        s.test("a bar that is reworked keeps its own", x -> {
            x.edition(0, 2, 1);
            x.tempo(0, 1, 500);
            x.rework(0, 1, 9);
            x.rework(0, 2, 9);
            s.dueAll(new int[] {x.bar(0, 1, 3), x.bar(0, 2, 3)}, 500, NOTHING);
        });
    }

    private void durations() {
        s.test("The duration of a bar, in seconds, is its beats as a float, times 60.0f, divided by", x -> {
            x.edition(0, 4, 7);
            x.tempo(0, 1, 201);
            x.tempo(0, 2, 2499);
            x.tempo(0, 3, 333);
            x.tempo(0, 4, 1111);
            x.rework(0, 4, 9);
            s.dueBits(x.seconds(0, 1, 1), 7.0f * 60.0f / (201.0f / 10.0f));
            s.dueBits(x.seconds(0, 2, 2), 7.0f * 60.0f / (2499.0f / 10.0f));
            s.dueBits(x.seconds(0, 3, 3), 7.0f * 60.0f / (333.0f / 10.0f));
            s.dueBits(x.seconds(0, 4, 4), 9.0f * 60.0f / (1111.0f / 10.0f));
        });
        s.test("the tempo that counts as a float divided by 10.0f", x -> {
            x.edition(0, 1, 1);
            int others = 0;
            for (int tenths = 2300; tenths <= 2500; tenths++) {
                x.tempo(0, 1, tenths);
                float tempo = (float) tenths / 10.0f;
                s.dueBits(x.seconds(0, 1, 1), 1.0f * 60.0f / tempo);
                others += 60.0f / tempo == (float) (60.0 / (tenths / 10.0)) ? 0 : 1;
            }
            s.holds(others > 0);
        });
        s.test("The duration of some bars is the sum of their durations as floats, added in ascending order", x -> {
            x.edition(0, 99, 7);
            x.tempo(0, 1, 201);
            x.tempo(0, 30, 2499);
            x.tempo(0, 60, 777);
            float up = 0.0f;
            float down = 0.0f;
            double exact = 0;
            for (int bar = 1; bar <= 99; bar++) {
                up = up + duration(7, bar);
                down = down + duration(7, 100 - bar);
                exact += duration(7, bar);
                s.dueBits(x.seconds(0, 1, bar), up);
            }
            s.holds(up != down && up != (float) exact);
            float middle = 0.0f;
            for (int bar = 29; bar <= 61; bar++) {
                middle = middle + duration(7, bar);
            }
            s.dueBits(x.seconds(0, 29, 61), middle);
        });
    }

    private static float duration(int beats, int bar) {
        int tenths = bar < 30 ? 201 : bar < 60 ? 2499 : 777;
        return (float) beats * 60.0f / ((float) tenths / 10.0f);
    }

    private void tempo() {
        s.section("Promise 12");
        s.test("Gives a bar a tempo of its own, or takes it away", x -> {
            x.edition(0, 2, 1);
            x.tempo(0, 1, 500);
            s.dueAll(new int[] {x.bar(0, 1, 3), x.bar(0, 2, 3), x.bar(0, 2, 4)}, 500, NOTHING, 500);
            x.tempo(0, 1, 0);
            s.dueAll(new int[] {x.bar(0, 1, 3), x.bar(0, 2, 3), x.bar(0, 2, 4)}, NOTHING, NOTHING, 1000);
        });
        s.test("`tenths`: the tempo in tenths, or 0 to take it away", x -> {
            x.edition(0, 2, 1);
            s.due(x.tempo(0, 2, 1000), NOTHING);
            s.due(x.ofEdition(0, 6), 1);
            s.due(x.tempo(0, 2, 0), 1000);
            s.due(x.tempo(0, 2, 0), NOTHING);
            s.due(x.ofEdition(0, 6), 0);
        });
        s.test("Returns its own tempo before, or NOTHING", x -> {
            x.edition(0, 2, 1);
            x.tempo(0, 1, 200);
            s.due(x.tempo(0, 2, 300), NOTHING);
            s.due(x.tempo(0, 2, 2500), 300);
            s.due(x.tempo(0, 2, 2500), 2500);
            s.due(x.tempo(0, 1, 0), 200);
        });
        s.test("NONE", x -> {
            s.due(x.tempo(0, 1, 500), NONE);
            x.edition(0, 2, 1);
            s.dueAll(new int[] {x.tempo(-1, 1, 500), x.tempo(1, 1, 500), x.tempo(0, 0, 500), x.tempo(0, 3, 500)},
                NONE, NONE, NONE, NONE);
            s.dueAll(new int[] {x.tempo(0, MIN, 500), x.tempo(0, MAX, 500), x.tempo(0, 3, 1), x.tempo(0, 3, 0)},
                NONE, NONE, NONE, NONE);
        });
        s.test("BAD", x -> {
            x.edition(0, 2, 1);
            x.tempo(0, 1, 444);
            s.dueAll(new int[] {x.tempo(0, 1, -1), x.tempo(0, 1, 1), x.tempo(0, 1, 199), x.tempo(0, 1, 2501)},
                BAD, BAD, BAD, BAD);
            s.dueAll(new int[] {x.tempo(0, 1, MIN), x.tempo(0, 1, MAX), x.tempo(0, 1, -500)}, BAD, BAD, BAD);
            s.due(x.bar(0, 1, 3), 444);
        });
    }

    private void seconds() {
        s.section("Promise 13");
        s.namesNoBoundary("Returns the duration of some bars");
        s.test("Returns the bits of the duration, as Float.floatToIntBits tells them", x -> {
            x.edition(0, 99, 9);
            x.tempo(0, 1, 200);
            s.due(x.seconds(0, 1, 99), Float.floatToIntBits(2673.0f));
            x.edition(1, 1, 1);
            x.tempo(1, 1, 2500);
            s.due(x.seconds(1, 1, 1), Float.floatToIntBits(0.24f));
            x.tempo(1, 1, 600);
            s.due(x.seconds(1, 1, 1), Float.floatToIntBits(1.0f));
            x.tempo(1, 1, 300);
            s.due(x.seconds(1, 1, 1), Float.floatToIntBits(2.0f));
            x.tempo(1, 1, 1200);
            s.due(x.seconds(1, 1, 1), Float.floatToIntBits(0.5f));
        });
        s.test("NONE", x -> {
            s.due(x.seconds(0, 1, 1), NONE);
            x.edition(0, 4, 1);
            s.dueAll(new int[] {x.seconds(-1, 1, 1), x.seconds(1, 1, 1), x.seconds(0, 0, 1), x.seconds(0, 1, 5)},
                NONE, NONE, NONE, NONE);
            s.dueAll(new int[] {x.seconds(0, 5, 1), x.seconds(0, 2, 0), x.seconds(0, MIN, MAX), x.seconds(0, 5, 5)},
                NONE, NONE, NONE, NONE);
        });
        s.test("BAD if the last bar is ahead of the first one", x -> {
            x.edition(0, 4, 1);
            s.dueAll(new int[] {x.seconds(0, 2, 1), x.seconds(0, 4, 3), x.seconds(0, 4, 1)}, BAD, BAD, BAD);
            s.dueBits(x.seconds(0, 4, 4), 0.6f);
        });
    }

    private void length() {
        s.section("Promise 14");
        s.test("Returns the duration of all bars of an edition, cast to int", x -> {
            x.edition(0, 1, 1);
            s.due(x.length(0), 0);
            x.edition(1, 3, 1);
            s.due(x.length(1), 1);
            x.edition(2, 2, 1);
            x.tempo(2, 1, 600);
            s.due(x.length(2), 2);
            x.tempo(2, 2, 601);
            s.due(x.length(2), 1);
        });
        s.test("Returns the duration in whole seconds", x -> {
            x.edition(0, 99, 9);
            x.tempo(0, 1, 200);
            s.due(x.length(0), 2673);
            x.tempo(0, 99, 2500);
            s.due(x.length(0), 2648);
        });
        s.test("NONE", x -> {
            s.due(x.length(0), NONE);
            x.edition(0, 4, 1);
            s.dueAll(new int[] {x.length(-1), x.length(1), x.length(MIN), x.length(MAX)}, NONE, NONE, NONE, NONE);
        });
    }

    private void barAt() {
        s.section("Promise 15");
        s.test("Returns the first bar for which the duration of all bars up to it, itself included, is greater", x -> {
            x.edition(0, 4, 1);
            x.tempo(0, 1, 600);
            s.dueAll(new int[] {x.barAt(0, 0), x.barAt(0, 1), x.barAt(0, 2), x.barAt(0, 3)}, 1, 2, 3, 4);
            x.tempo(0, 1, 300);
            s.dueAll(new int[] {x.barAt(0, 1), x.barAt(0, 2), x.barAt(0, 3), x.barAt(0, 7)}, 1, 2, 2, 4);
        });
        s.test("`second`: the seconds, 0 or more", x -> {
            x.edition(0, 1, 1);
            x.tempo(0, 1, 2500);
            s.dueAll(new int[] {x.barAt(0, 0), x.barAt(0, 1), x.barAt(0, -1)}, 1, NOTHING, BAD);
        });
        s.test("Returns the bar, or NOTHING", x -> {
            x.edition(0, 3, 1);
            x.tempo(0, 1, 600);
            s.dueAll(new int[] {x.barAt(0, 2), x.barAt(0, 3), x.barAt(0, 4), x.barAt(0, MAX)},
                3, NOTHING, NOTHING, NOTHING);
            x.edition(1, 99, 9);
            x.tempo(1, 1, 200);
            s.dueAll(new int[] {x.barAt(1, 2672), x.barAt(1, 2673)}, 99, NOTHING);
        });
        s.test("NONE", x -> {
            s.due(x.barAt(0, 0), NONE);
            x.edition(0, 3, 1);
            s.dueAll(new int[] {x.barAt(-1, 0), x.barAt(1, 0), x.barAt(1, -1), x.barAt(MAX, 0)}, NONE, NONE, NONE, NONE);
        });
        s.test("BAD", x -> {
            x.edition(0, 3, 1);
            s.dueAll(new int[] {x.barAt(0, -1), x.barAt(0, MIN)}, BAD, BAD);
        });
    }

    private void pace() {
        s.section("Promise 16");
        s.test("Returns the mean tempo of an edition: the sum of all beats as a float, times 60.0f", x -> {
            x.edition(0, 2, 7);
            x.rework(0, 2, 2);
            x.tempo(0, 2, 2333);
            float all = 0.0f + 7.0f * 60.0f / (1000.0f / 10.0f) + 2.0f * 60.0f / (2333.0f / 10.0f);
            s.dueBits(x.pace(0), 9.0f * 60.0f / all);
            x.edition(1, 99, 9);
            x.tempo(1, 50, 777);
            float sum = 0.0f;
            for (int bar = 1; bar <= 99; bar++) {
                sum = sum + 9.0f * 60.0f / ((bar < 50 ? 1000.0f : 777.0f) / 10.0f);
            }
            s.dueBits(x.pace(1), 891.0f * 60.0f / sum);
        });
        s.test("Returns the bits of the tempo in beats for a minute, as Float.floatToIntBits tells them", x -> {
            x.edition(0, 1, 1);
            x.tempo(0, 1, 200);
            s.due(x.pace(0), Float.floatToIntBits(20.0f));
            x.tempo(0, 1, 2500);
            s.due(x.pace(0), Float.floatToIntBits(60.0f / 0.24f));
            x.tempo(0, 1, 1280);
            s.due(x.pace(0), Float.floatToIntBits(128.0f));
        });
        s.test("NONE", x -> {
            s.due(x.pace(0), NONE);
            x.edition(0, 3, 1);
            s.dueAll(new int[] {x.pace(-1), x.pace(1), x.pace(MIN), x.pace(MAX)}, NONE, NONE, NONE, NONE);
        });
    }
}
