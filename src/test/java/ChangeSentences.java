import java.util.Arrays;

/** The sentences about details, changes and error codes, and those of promises 41 to 44. */
final class ChangeSentences implements Codes {
    private final Sentences s;

    ChangeSentences(Sentences sentences) {
        s = sentences;
    }

    void testAll() {
        details();
        changes();
        latestChanges();
        snapshots();
        errorCodes();
        codesLeaveAllUnchanged();
        constants();
        count();
        undo();
        save();
        restore();
    }

    private void details() {
        s.section("Details");
        s.test("The greatest origin and version of a work are part of what undo and restore bring back", x -> {
            x.edition(0, 5, 1);
            x.derive(0);
            x.save();
            x.insert(0, 5, 3, 1);
            x.rework(0, 1, 1);
            x.undo();
            x.undo();
            s.dueAll(new int[] {x.insert(1, 5, 1, 1), x.bar(1, 6, 0), x.rework(1, 1, 1)}, 6, 6, 1);
            x.restore();
            s.dueAll(new int[] {x.insert(0, 5, 1, 1), x.bar(0, 6, 0), x.rework(0, 1, 1)}, 6, 6, 1);
        });
        s.test("When a run of kind 2 stands directly behind a run of kind 1, its bar of the first edition", x -> {
            x.edition(0, 5, 1);
            x.derive(0);
            x.insert(0, 0, 2, 1);
            x.insert(1, 0, 1, 1);
            x.insert(0, 4, 3, 1);
            x.insert(1, 3, 1, 1);
            s.dueAll(new int[] {x.difference(0, 1, 0, 0), x.difference(0, 1, 1, 0), x.difference(0, 1, 1, 1)}, 1, 2, 2);
            s.dueAll(new int[] {x.difference(0, 1, 2, 1), x.difference(0, 1, 2, 2), x.difference(0, 1, 3, 1),
                x.difference(0, 1, 3, 2)}, 5, 3, 7, 4);
        });
        s.test("Tempos and bowings can be changed also when copies have been bought", x -> {
            x.edition(0, 5, 1);
            x.derive(0);
            x.buy(0, 0, 30);
            x.buy(1, 0, 30);
            s.dueAll(new int[] {x.tempo(0, 1, 500), x.tempo(0, 1, 0), x.bow(0, 0, 1, 4), x.copyBowings(0, 1, 0, 0)},
                NOTHING, 500, 0, 1);
            s.due(Checks.readText(x, "t0:1=300;b0.0:1=2"), 2);
            s.dueAll(new int[] {x.bar(0, 1, 3), x.bowing(0, 0, 1), x.bowing(1, 0, 1)}, 300, 2, 4);
        });
        s.test("Lost copies count among the 30 that are bought at most", x -> {
            x.edition(0, 5, 1);
            x.buy(0, 0, 29);
            x.lend(0, 0, 0, 29, 0);
            x.bring(0, 0, 29);
            s.dueAll(new int[] {x.buy(0, 0, 2), x.buy(0, 0, 1), x.buy(0, 0, 1), x.ofEdition(0, 4)}, FULL, 30, FULL, 30);
        });
        s.test("Closed loans count among the 20, and for the numbers of a borrower", x -> {
            x.edition(0, 5, 1);
            x.buy(0, 0, 30);
            for (int loan = 0; loan < 20; loan++) {
                x.lend(3, 0, 0, 1, 0);
                x.bring(loan, loan % 2, 1 - loan % 2);
            }
            s.dueAll(new int[] {x.lend(3, 0, 0, 1, 0), x.refusal()}, REFUSED, 3);
            s.dueAll(new int[] {x.borrower(3, 0), x.borrower(3, 1), x.borrower(3, 2), x.borrower(3, 3)}, 0, 10, 500, 0);
        });
        s.test("A clash is counted in both modes", x -> {
            clashing(x);
            x.copyBowings(0, 1, 0, 0);
            s.due(x.copied(2), 2);
            x.copyBowings(0, 1, 0, 1);
            s.due(x.copied(2), 2);
        });
        s.test("in mode 1 its bowing is one of those that are put", x -> {
            clashing(x);
            s.dueAll(new int[] {x.copyBowings(0, 1, 0, 1), x.copied(0), x.bowing(1, 0, 1)}, 3, 3, 1);
        });
        s.test("A number that failed keeps until the next call of read that returns STATE", x -> {
            x.edition(0, 5, 1);
            x.save();
            Checks.readText(x, "w0:1=1;w0:2=2;w0:9=9");
            s.due(x.failed(), 2);
            Checks.readText(x, "w0:1=1");
            s.due(x.failed(), 2);
            Checks.readText(x, "w0:1=1;");
            s.due(x.failed(), 2);
            x.undo();
            s.due(x.failed(), 2);
            x.restore();
            s.due(x.failed(), 2);
            Checks.readText(x, "w0:1=1;w0:9=9");
            s.due(x.failed(), 1);
        });
    }

    /** Three bars with bowings in edition 0; the first two of edition 1 have others, the third has none. */
    private static void clashing(OrchestraLibrary x) {
        x.edition(0, 5, 1);
        x.derive(0);
        for (int bar = 1; bar <= 3; bar++) {
            x.bow(0, 0, bar, 1);
        }
        x.bow(1, 0, 1, 2);
        x.bow(1, 0, 2, 3);
    }

    private void dueChanges(OrchestraLibrary x, int want) {
        s.due(x.count(9), want);
    }

    private void changes() {
        s.section("Changes");
        s.test("The calls edition, derive, cut, insert, rework, tempo, seat, buy, bow, copyBowings, lend", x -> {
            x.edition(0, 5, 1);
            dueChanges(x, 1);
            x.derive(0);
            dueChanges(x, 2);
            x.cut(0, 1, 1);
            dueChanges(x, 3);
            x.insert(0, 0, 1, 1);
            dueChanges(x, 4);
            x.rework(0, 1, 1);
            dueChanges(x, 5);
            x.tempo(0, 1, 200);
            dueChanges(x, 6);
            x.bow(0, 0, 1, 1);
            dueChanges(x, 7);
            x.copyBowings(0, 1, 0, 0);
            dueChanges(x, 8);
        });
        s.test("lendAll, bring, pass and read that return no error code are changes", x -> {
            x.edition(0, 5, 1);
            x.save();
            x.restore();
            x.seat(0, 2);
            dueChanges(x, 1);
            x.buy(0, 0, 5);
            dueChanges(x, 2);
            x.lend(0, 0, 0, 1, 0);
            dueChanges(x, 3);
            x.lendAll(0, 0, 0);
            dueChanges(x, 4);
            x.bring(0, 1, 0);
            dueChanges(x, 5);
            x.pass(1);
            dueChanges(x, 6);
            Checks.readText(x, "t0:1=0");
            dueChanges(x, 7);
        });
        s.test("that return no error code are changes", x -> {
            x.edition(0, 5, 1);
            x.buy(0, 0, 1);
            int[] answers = {x.edition(0, 5, 1), x.derive(1), x.cut(0, 1, 5), x.insert(0, 0, 95, 1), x.rework(0, 1, 1),
                x.tempo(0, 1, 1), x.seat(0, 21), x.buy(0, 0, 30), x.bow(0, 4, 1, 1), x.copyBowings(0, 0, 0, 0),
                x.lend(0, 0, 0, 2, 0), x.lendAll(0, 0, 0), x.bring(0, 1, 0), x.pass(0), Checks.readText(x, "w0:1=1")};
            s.dueAll(answers, STATE, NONE, BAD, FULL, REFUSED, BAD, BAD, FULL, NONE, BAD, REFUSED, REFUSED, NONE, BAD, STATE);
            dueChanges(x, 2);
        });
        s.test("bring, pass and read that return no error code", x -> {
            x.edition(0, 5, 1);
            x.box(0, 0, 5);
            x.put(0, 0, 0, 0);
            x.likeBox(0, 1);
            x.append('a');
            x.save();
            s.dueAll(new int[] {x.ofEdition(0, 0), x.bar(0, 1, 0), x.carry(0, 1, 0), x.compare(0, 0, 0), x.length(0),
                x.barAt(0, 9), x.needs(0), x.stock(0, 0, 0), x.bowing(0, 0, 1), x.borrower(0, 0), x.look(0, 0, 0)},
                0, 1, 1, 5, 3, NOTHING, 0, 0, 0, 0, 0);
            dueChanges(x, 1);
        });
        s.test("are changes, also if nothing is different then", x -> {
            x.edition(0, 5, 1);
            x.derive(0);
            s.dueAll(new int[] {x.tempo(0, 1, 0), x.bow(0, 0, 1, 0), x.seat(0, 0), x.copyBowings(0, 1, 0, 0),
                Checks.readText(x, "t0:1=0;b0.0:1=0")}, NOTHING, 0, 0, 0, 2);
            dueChanges(x, 7);
            s.dueAll(new int[] {x.undo(), x.undo(), x.undo(), x.undo(), x.undo(), x.count(0), x.undo(), x.count(0)},
                6, 5, 4, 3, 2, 2, 1, 1);
        });
        s.test("a text is one change", x -> {
            x.edition(0, 5, 1);
            s.due(Checks.readText(x, "t0:1=500;w0:1=2;w0:1=3;b0.0:1=4;i0:0+1*1"), 5);
            dueChanges(x, 2);
            s.dueAll(new int[] {x.undo(), x.ofEdition(0, 1), x.ofEdition(0, 5), x.ofEdition(0, 6), x.bar(0, 1, 1)},
                1, 5, 0, 0, 0);
        });
    }

    private void latestChanges() {
        s.test("The latest 8 changes can be undone, the latest first", x -> {
            for (int day = 1; day <= 9; day++) {
                x.pass(1);
                dueChanges(x, Math.min(day, 8));
            }
            for (int left = 7; left >= 0; left--) {
                s.dueAll(new int[] {x.undo(), x.count(8)}, left, left + 1);
            }
            s.dueAll(new int[] {x.undo(), x.count(8)}, STATE, 1);
        });
        s.test("The latest 8 changes can be undone", x -> {
            // Calls that fail between them, and behind them, take none of the 8 away.
            x.edition(0, 5, 1);
            x.buy(0, 0, 1);
            for (int day = 1; day <= 9; day++) {
                s.due(x.pass(1), day);
                fail(x);
            }
            for (int left = 7; left >= 0; left--) {
                s.dueAll(new int[] {x.undo(), x.count(8)}, left, left + 1);
                fail(x);
            }
            s.dueAll(new int[] {x.undo(), x.count(8)}, STATE, 1);
        });
        s.test("older ones are forgotten for good", x -> {
            for (int day = 1; day <= 10; day++) {
                x.pass(1);
            }
            for (int i = 0; i < 8; i++) {
                x.undo();
            }
            s.dueAll(new int[] {x.undo(), x.count(8), x.pass(5), x.undo(), x.undo(), x.count(8)}, STATE, 2, 7, 0, STATE, 2);
        });
        s.test("older ones are forgotten", x -> {
            // Around the ring of the kept changes several times, with undone ones in between.
            int day = 0;
            for (int round = 0; round < 12; round++) {
                for (int i = 0; i < 5; i++) {
                    s.due(x.pass(1), ++day);
                }
                int left = round == 0 ? 4 : 7;
                s.dueAll(new int[] {x.undo(), x.count(8), x.undo(), x.count(8)}, left, day - 1, left - 1, day - 2);
                day -= 2;
            }
            for (int left = 5; left >= 0; left--) {
                s.dueAll(new int[] {x.undo(), x.count(8)}, left, --day);
            }
            s.due(x.undo(), STATE);
        });
    }

    private void fail(OrchestraLibrary x) {
        s.dueAll(new int[] {x.edition(0, 5, 1), x.derive(1), x.cut(0, 1, 1), x.insert(0, 0, 1, 1), x.rework(0, 1, 1),
            x.tempo(0, 1, 1), x.bow(0, 0, 1, 5), x.lend(0, 0, 0, 2, 0), x.bring(0, 1, 0), x.pass(0)},
            STATE, NONE, REFUSED, REFUSED, REFUSED, BAD, BAD, REFUSED, NONE, BAD);
        s.dueAll(new int[] {Checks.readText(x, "t0:1=200;w0:1=1")}, STATE);
    }

    private void snapshots() {
        s.test("The snapshot contains everything but itself, the boxes, the input, the fault position", x -> {
            changed(x);
            int[] before = told(x);
            x.save();
            s.due(x.restore(), 2);
            s.dueAll(told(x), before);
            dueOthers(x, 8, 1, 1, 3, 4, 1);
            // Now everything is changed, and others that the snapshot does not contain, too.
            x.edition(1, 3, 3);
            x.tempo(1, 1, 0);
            x.bow(1, 0, 3, 0);
            x.seat(0, 1);
            x.buy(0, 0, 9);
            x.bring(0, 1, 0);
            x.pass(4);
            others(x);
            x.restore();
            s.dueAll(told(x), before);
            dueOthers(x, 5, 2, 2, 0, 6, 0);
            dueChanges(x, 0);
        });
        s.test("The snapshot contains everything but itself", x -> {
            // Another loan and another edition in place of those of the snapshot leave nothing behind.
            changed(x);
            int[] before = told(x);
            x.save();
            for (int left = 7; left >= 3; left--) {
                s.due(x.undo(), left);
            }
            s.dueAll(new int[] {x.count(1), x.buy(1, 0, 9), x.lend(5, 1, 0, 7, 20), x.bring(0, 1, 2)}, 0, 9, 0, 100);
            s.due(x.restore(), 2);
            s.dueAll(told(x), before);
        });
        s.test("what was told by copied, and the changes that can be undone", x -> {
            x.edition(0, 3, 3);
            x.derive(0);
            x.bow(0, 0, 1, 1);
            x.save();
            x.copyBowings(0, 1, 0, 0);
            x.restore();
            s.dueAll(new int[] {x.copied(0), x.bowing(1, 0, 1), x.count(9)}, 1, 0, 0);
            x.pass(1);
            x.save();
            s.dueAll(new int[] {x.count(9), x.undo(), x.restore(), x.undo()}, 1, 0, 2, STATE);
        });
        s.test("undoing leaves these as they are, too", x -> {
            changed(x);
            x.save();
            x.pass(1);
            others(x);
            x.undo();
            dueOthers(x, 5, 2, 2, 0, 6, 0);
            x.undo();
            dueOthers(x, 5, 2, 2, 0, 6, 0);
            s.due(x.restore(), 2);
        });
    }

    /** Two editions with all that a snapshot contains, and things that it does not contain. */
    private static void changed(OrchestraLibrary x) {
        x.edition(0, 3, 3);
        x.derive(0);
        x.rework(1, 2, 5);
        x.insert(1, 0, 1, 1);
        x.tempo(1, 1, 500);
        x.bow(1, 0, 3, 4);
        x.copyBowings(1, 0, 0, 0);
        x.buy(0, 4, 9);
        x.lend(2, 0, 4, 5, 1);
        x.pass(3);
        x.bring(0, 1, 1);
        x.box(0, 0, 8);
        x.put(0, 0, 0, 0);
        Checks.readText(x, "w0:");
        x.cut(0, 1, 1);
        x.seat(4, 2);
        x.bow(1, 3, 2, 1);
        x.append('a');
    }

    private static void others(OrchestraLibrary x) {
        x.box(0, 0, 5);
        x.put(0, 0, 0, 0);
        x.put(0, 1, 0, 0);
        Checks.readText(x, "w");
        x.append('b');
        x.append('b');
        x.seat(0, 0);
        x.seat(4, 0);
        x.lendAll(0, 0, 0);
        x.copyBowings(0, 1, 1, 0);
    }

    /** What undo and restore bring back, as far as two small editions and two loans can tell it. */
    private static int[] told(OrchestraLibrary x) {
        int[] all = new int[120];
        int length = 0;
        for (int what = 0; what <= 8; what++) {
            all[length++] = x.count(what);
        }
        for (int edition = 0; edition < 2; edition++) {
            for (int what = 0; what <= 6; what++) {
                all[length++] = x.ofEdition(edition, what);
            }
            for (int bar = 1; bar <= 4; bar++) {
                for (int what = 0; what <= 3; what++) {
                    all[length++] = x.bar(edition, bar, what);
                }
                all[length++] = x.bowing(edition, 0, bar);
                all[length++] = x.bowing(edition, 3, bar);
            }
            for (int what = 1; what <= 3; what++) {
                all[length++] = x.stock(edition, 0, what);
                all[length++] = x.stock(edition, 4, what);
            }
        }
        for (int what = 0; what <= 7; what++) {
            all[length++] = x.loan(0, what);
            all[length++] = x.loan(1, what);
        }
        for (int what = 0; what <= 3; what++) {
            all[length++] = x.borrower(2, what);
        }
        all[length++] = x.needs(0);
        all[length++] = x.needs(4);
        return Arrays.copyOf(all, length);
    }

    /** A change of each kind on the library that changed has made. */
    private static int change(OrchestraLibrary x, int kind) {
        switch (kind) {
            case 0: return x.edition(1, 2, 2);
            case 1: return x.derive(0);
            case 2: return x.cut(1, 1, 1);
            case 3: return x.insert(1, 3, 1, 1);
            case 4: return x.rework(1, 3, 9);
            case 5: return x.tempo(1, 2, 700);
            case 6: return x.seat(0, 3);
            case 7: return x.buy(0, 4, 2);
            case 8: return x.bow(1, 3, 2, 2);
            case 9: return x.copyBowings(1, 0, 3, 1);
            case 10: return x.lend(3, 0, 4, 1, 0);
            case 11: return x.lendAll(3, 0, 0);
            case 12: return x.bring(0, 1, 1);
            case 13: return x.pass(1);
            default:
                x.read();
                return Checks.readText(x, "t1:1=600;w1:1=2;l3:0.4*2/7");
        }
    }

    /** Places and things of box 0, length of the input, fault position, reason, and bowings that were put. */
    private void dueOthers(OrchestraLibrary x, int... want) {
        int places = want[0];
        s.dueAll(new int[] {x.look(0, places - 1, 0), x.look(0, places, 0), x.likeBox(0, 0)}, NOTHING, NONE, want[1]);
        s.dueAll(new int[] {x.count(10), x.faultPosition(), x.refusal(), x.copied(0)},
            Arrays.copyOfRange(want, 2, 6));
    }

    private void errorCodes() {
        s.section("Error codes");
        s.test("NONE means that there is no such edition, work, bar, instrument, borrower, loan, box, place or number", x -> {
            x.edition(0, 5, 1);
            x.box(0, 0, 1);
            s.dueAll(new int[] {x.derive(1), x.edition(4, 1, 1), x.rework(0, 6, 1), x.needs(6), x.borrower(6, 0),
                x.loan(0, 0), x.box(3, 0, 0), x.look(0, 1, 0), x.count(11)},
                NONE, NONE, NONE, NONE, NONE, NONE, NONE, NONE, NONE);
            s.dueAll(new int[] {x.derive(-1), x.edition(-1, 1, 1), x.rework(0, 0, 1), x.needs(-1), x.borrower(-1, 0),
                x.loan(-1, 0), x.box(-1, 0, 0), x.look(0, -1, 0), x.count(-1)},
                NONE, NONE, NONE, NONE, NONE, NONE, NONE, NONE, NONE);
        });
        s.test("BAD that a number is out of range or numbers do not fit", x -> {
            x.edition(0, 5, 1);
            x.edition(1, 5, 1);
            s.dueAll(new int[] {x.edition(2, 100, 1), x.cut(0, 3, 2), x.compare(0, 1, 0), x.pass(0), x.append(31)},
                BAD, BAD, BAD, BAD, BAD);
        });
        s.test("STATE that the state forbids the call", x -> {
            x.edition(0, 5, 1);
            x.undo();
            s.dueAll(new int[] {x.undo(), x.restore(), x.edition(0, 5, 1), x.edition(0, 5, 1)}, STATE, STATE, 0, STATE);
            s.due(Checks.readText(x, "w0:6=1"), STATE);
        });
        s.test("FULL that a limit is reached", x -> {
            x.edition(0, 99, 1);
            x.buy(0, 0, 30);
            s.dueAll(new int[] {x.insert(0, 0, 1, 1), x.buy(0, 0, 1), x.buy(0, 1, 30)}, FULL, FULL, 30);
        });
        s.test("REFUSED that there is a reason, which is kept", x -> {
            x.edition(0, 5, 1);
            x.buy(0, 0, 30);
            s.dueAll(new int[] {x.cut(0, 1, 1), x.refusal(), x.tempo(0, 1, 200), x.undo(), x.refusal()},
                REFUSED, 4, NOTHING, 2, 4);
        });
        s.test("UNLIKE that a box does not take a thing", x -> {
            x.edition(0, 5, 1);
            x.box(0, 3, 1);
            s.dueAll(new int[] {x.put(0, 0, 0, -1), x.put(0, 0, 0, 4), x.put(0, 0, 0, 3)}, UNLIKE, UNLIKE, 1);
        });
        s.test("NOTHING is no error code", x -> {
            x.edition(0, 5, 1);
            s.dueAll(new int[] {x.tempo(0, 1, 500), x.count(9), x.bar(0, 1, 3)}, NOTHING, 2, 500);
            s.dueAll(new int[] {Checks.readText(x, "t0:2=600"), x.failed(), x.bar(0, 2, 3)}, 1, NOTHING, 600);
        });
        s.test("If several codes are possible, the first one in the order NONE, BAD, STATE, FULL, REFUSED, UNLIKE", x -> {
            x.edition(0, 99, 1);
            x.derive(0);
            x.edition(1, 5, 1);
            x.buy(0, 0, 30);
            x.derive(0);
            x.derive(0);
            x.derive(0);
            s.dueAll(new int[] {x.edition(4, 0, 0), x.edition(0, 0, 1), x.edition(0, 1, 1), x.edition(2, 1, 1)},
                NONE, BAD, STATE, FULL);
            s.dueAll(new int[] {x.insert(0, 100, 0, 0), x.insert(0, 0, 1, 0), x.insert(0, 0, 1, 1)}, NONE, BAD, FULL);
            s.dueAll(new int[] {x.cut(0, 0, 99), x.cut(0, 1, 99), x.cut(0, 1, 1)}, NONE, BAD, REFUSED);
            s.dueAll(new int[] {x.derive(6), x.derive(0), x.buy(0, 6, 31), x.buy(0, 0, 31), x.buy(0, 0, 1)},
                NONE, FULL, NONE, BAD, FULL);
            s.dueAll(new int[] {x.lend(0, 0, 6, 31, 0), x.lend(0, 1, 0, 31, 0), x.lend(0, 1, 0, 1, 0)}, NONE, BAD, REFUSED);
            s.dueAll(new int[] {x.compare(0, 2, 5), x.compare(0, 2, 0), x.copyBowings(0, 0, 4, 2)}, NONE, BAD, NONE);
            x.box(0, 1, 1);
            s.dueAll(new int[] {x.put(0, 0, 6, 0), x.put(0, 0, 0, 6), x.put(0, 1, 0, 0), x.put(0, 0, 0, 0)},
                NONE, NONE, NONE, UNLIKE);
        });
    }

    private void codesLeaveAllUnchanged() {
        s.test("A call that returns an error code leaves everything unchanged, except that read empties the input", x -> {
            changed(x);
            int[] before = told(x);
            int changes = x.count(9);
            int[] answers = {x.edition(0, 5, 1), x.derive(-1), x.cut(0, 1, 3), x.insert(0, 0, 97, 1), x.rework(0, 1, 1),
                x.tempo(1, 1, 199), x.seat(0, 21), x.buy(0, 4, 22), x.bow(1, 0, 3, 5), x.copyBowings(1, 0, 0, 2),
                x.lend(3, 0, 4, 30, 0), x.lendAll(2, 0, 0), x.bring(0, 30, 0), x.pass(1000), x.box(0, 0, 9),
                x.put(0, 0, 6, 0), x.likeBox(0, 3), x.append(127)};
            s.dueAll(answers, STATE, NONE, BAD, FULL, REFUSED, BAD, BAD, FULL, BAD, BAD, REFUSED, REFUSED, REFUSED, BAD,
                BAD, NONE, NONE, BAD);
            s.dueAll(told(x), before);
            s.dueAll(new int[] {x.count(9), x.count(10), x.copied(0), x.look(0, 0, 0)}, changes, 1, 1, 0);
            dueOthers(x, 8, 1, 1, 3, 5, 1);
        });
        s.test("except that read empties the input", x -> {
            changed(x);
            int[] before = told(x);
            s.dueAll(new int[] {x.count(10), x.read(), x.count(10)}, 1, BAD, 0);
            s.due(Checks.readText(x, "w1:1=9;i1:1+1*1;c1:3-3;t1:1=0;b1.0:1=1;r0:1+0;r0:1+30;"), BAD);
            s.due(Checks.readText(x, "w1:1=9;i1:1+1*1;c1:3-3;t1:1=0;b1.0:1=1;r0:1+0;r0:1+30"), STATE);
            s.dueAll(told(x), before);
            s.dueAll(new int[] {x.count(9), x.count(10), x.failed(), x.refusal(), x.faultPosition()}, 8, 0, 6, 5, NOTHING);
            s.dueAll(new int[] {x.rework(1, 1, 1), x.insert(1, 0, 1, 1), x.bar(1, 1, 0)}, 2, 5, 5);
        });
    }

    private void constants() {
        s.section("The constants");
        s.test("`NONE = -1`: There is no such number", x -> s.dueAll(new int[] {OrchestraLibrary.NONE, x.needs(6)}, -1, -1));
        s.test("`BAD = -2`: A number is out of range, or numbers do not fit",
            x -> s.dueAll(new int[] {OrchestraLibrary.BAD, x.seat(0, 21)}, -2, -2));
        s.test("`STATE = -3`: The state forbids the call",
            x -> s.dueAll(new int[] {OrchestraLibrary.STATE, x.undo()}, -3, -3));
        s.test("`FULL = -4`: A limit is reached", x -> {
            x.edition(0, 99, 1);
            s.dueAll(new int[] {OrchestraLibrary.FULL, x.insert(0, 0, 1, 1)}, -4, -4);
        });
        s.test("`REFUSED = -5`: There is a reason, which is kept", x -> {
            x.edition(0, 99, 1);
            s.dueAll(new int[] {OrchestraLibrary.REFUSED, x.lendAll(0, 0, 0), x.refusal()}, -5, -5, 6);
        });
        s.test("`UNLIKE = -6`: A box does not take a thing", x -> {
            x.edition(0, 99, 1);
            x.box(0, 1, 1);
            s.dueAll(new int[] {OrchestraLibrary.UNLIKE, x.put(0, 0, 0, 0)}, -6, -6);
        });
        s.test("`NOTHING = -7`: There is nothing", x -> s.dueAll(new int[] {OrchestraLibrary.NOTHING, x.failed()}, -7, -7));
        s.test("no error", x -> {
            x.edition(0, 99, 1);
            s.dueAll(new int[] {x.tempo(0, 1, 200), x.count(9)}, -7, 2);
        });
    }

    private void count() {
        s.section("Promise 41");
        s.namesNoBoundary("Returns a count");
        s.test("`what`: 0 for the editions, 1 for the loans, 2 for those that are not closed, 3 for the copies", x -> {
            x.edition(0, 5, 1);
            x.derive(0);
            x.derive(0);
            x.buy(0, 0, 30);
            x.buy(2, 5, 25);
            x.lend(0, 0, 0, 10, 0);
            x.lend(1, 2, 5, 12, 0);
            x.lend(1, 2, 5, 1, 0);
            x.lend(1, 2, 5, 1, 0);
            x.pass(2);
            x.bring(0, 3, 2);
            x.bring(2, 0, 1);
            x.append('a');
            x.append('a');
            int[] counts = new int[11];
            for (int what = 0; what < 11; what++) {
                counts[what] = x.count(what);
            }
            s.dueAll(counts, 3, 4, 3, 55, 34, 18, 3, 162, 2, 8, 2);
        });
        s.test("Returns the count", x -> {
            for (int what = 0; what < 11; what++) {
                s.due(x.count(what), 0);
            }
            x.edition(0, 5, 1);
            s.dueAll(new int[] {x.count(0), x.count(9)}, 1, 1);
            for (int edition = 0; edition < 6; edition++) {
                for (int instrument = 0; instrument < 6; instrument++) {
                    x.buy(edition, instrument, 30);
                }
                x.derive(0);
            }
            s.dueAll(new int[] {x.count(0), x.count(3), x.count(4), x.count(5), x.count(9)}, 6, 1080, 1080, 0, 8);
        });
        s.test("NONE", x -> {
            s.dueAll(new int[] {x.count(-1), x.count(11), x.count(MIN), x.count(MAX)}, NONE, NONE, NONE, NONE);
        });
    }

    private void undo() {
        s.section("Promise 42");
        s.test("Undoes the latest change that can be undone", x -> {
            x.edition(0, 5, 1);
            x.tempo(0, 1, 500);
            x.tempo(0, 1, 600);
            x.rework(0, 9, 1);
            x.box(0, 0, 1);
            x.undo();
            s.due(x.bar(0, 1, 3), 500);
            x.undo();
            s.due(x.bar(0, 1, 3), NOTHING);
            x.seat(0, 5);
            x.undo();
            s.dueAll(new int[] {x.needs(0), x.count(0)}, 0, 1);
            x.undo();
            s.due(x.count(0), 0);
        });
        s.test("Undoes the latest change", x -> {
            for (int kind = 0; kind <= 14; kind++) {
                OrchestraLibrary y = new OrchestraLibrary();
                changed(y);
                int[] before = told(y);
                int answer = change(y, kind);
                s.holds(answer >= 0 || answer == NOTHING);
                s.holds(!Arrays.equals(told(y), before));
                s.due(y.undo(), 7);
                s.dueAll(told(y), before);
            }
        });
        s.test("Returns the number of changes that can still be undone", x -> {
            s.due(x.edition(0, 5, 1), 0);
            x.pass(1);
            x.pass(1);
            s.dueAll(new int[] {x.undo(), x.count(9), x.undo(), x.count(9), x.undo(), x.count(9)}, 2, 2, 1, 1, 0, 0);
        });
        s.test("STATE if there is none", x -> {
            s.due(x.undo(), STATE);
            x.pass(0);
            x.save();
            s.due(x.undo(), STATE);
            x.pass(1);
            s.dueAll(new int[] {x.undo(), x.undo(), x.count(8), x.count(9)}, 0, STATE, 0, 0);
            x.pass(1);
            x.restore();
            s.due(x.undo(), STATE);
        });
    }

    private void save() {
        s.section("Promise 43");
        s.test("Makes the snapshot, in place of an earlier one", x -> {
            x.edition(0, 5, 1);
            x.save();
            x.pass(5);
            x.derive(0);
            s.due(x.save(), 2);
            x.pass(1);
            s.dueAll(new int[] {x.restore(), x.count(8), x.count(0)}, 2, 5, 2);
            x.cut(1, 1, 1);
            x.undo();
            x.undo();
            s.dueAll(new int[] {x.restore(), x.count(8), x.ofEdition(1, 1)}, 2, 5, 5);
        });
        s.test("Returns the number of editions", x -> {
            s.due(x.save(), 0);
            x.edition(0, 5, 1);
            s.due(x.save(), 1);
            for (int edition = 1; edition < 6; edition++) {
                x.derive(0);
                s.due(x.save(), edition + 1);
            }
            x.undo();
            s.due(x.save(), 5);
        });
    }

    private void restore() {
        s.section("Promise 44");
        s.test("Restores the snapshot, which stays", x -> {
            x.edition(0, 5, 1);
            x.save();
            for (int i = 0; i < 3; i++) {
                x.cut(0, 1, 1 + i);
                x.pass(1);
                s.dueAll(new int[] {x.restore(), x.ofEdition(0, 1), x.bar(0, 1, 0), x.count(8)}, 1, 5, 1, 0);
            }
            x.rework(0, 1, 9);
            x.undo();
            s.dueAll(new int[] {x.restore(), x.bar(0, 1, 2)}, 1, 1);
        });
        s.test("Restores the snapshot", x -> {
            x.edition(0, 5, 1);
            x.derive(0);
            x.save();
            x.undo();
            s.dueAll(new int[] {x.edition(1, 5, 2), x.ofEdition(1, 2), x.restore()}, 1, NOTHING, 2);
            s.dueAll(new int[] {x.ofEdition(1, 0), x.ofEdition(1, 2), x.bar(1, 5, 2), x.ofEdition(0, 3)}, 0, 0, 1, 1);
        });
        s.test("No changes can be undone then", x -> {
            x.edition(0, 5, 1);
            x.pass(1);
            x.save();
            x.pass(1);
            s.dueAll(new int[] {x.count(9), x.restore(), x.count(9), x.undo(), x.count(8)}, 3, 1, 0, STATE, 1);
            x.pass(3);
            s.dueAll(new int[] {x.count(9), x.undo(), x.undo(), x.count(8)}, 1, 0, STATE, 1);
        });
        s.test("Returns the number of editions", x -> {
            x.save();
            x.edition(0, 5, 1);
            s.due(x.restore(), 0);
            x.edition(0, 5, 1);
            for (int edition = 1; edition < 6; edition++) {
                x.derive(0);
            }
            x.save();
            x.undo();
            x.undo();
            s.dueAll(new int[] {x.restore(), x.count(0), x.ofEdition(5, 1)}, 6, 6, 5);
        });
        s.test("STATE if there is no snapshot", x -> {
            s.due(x.restore(), STATE);
            x.pass(1);
            s.dueAll(new int[] {x.restore(), x.count(8), x.count(9)}, STATE, 1, 1);
            x.save();
            x.pass(1);
            s.dueAll(new int[] {x.restore(), x.count(8)}, 0, 1);
        });
    }
}
