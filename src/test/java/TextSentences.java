/** The sentences about texts, and those of promises 36 to 40. */
final class TextSentences implements Codes {
    private final Sentences s;

    TextSentences(Sentences sentences) {
        s = sentences;
    }

    void testAll() {
        commands();
        numbers();
        faultsAndFailures();
        append();
        read();
        faultPosition();
        failed();
        refusal();
    }

    private static int read(OrchestraLibrary x, String text) {
        return Checks.readText(x, text);
    }

    /** Reads a text that has a fault at this place. */
    private void dueFault(OrchestraLibrary x, String text, int position) {
        int changes = x.count(9);
        s.due(read(x, text), BAD);
        s.due(x.faultPosition(), position);
        s.due(x.count(9), changes);
    }

    private void commands() {
        s.section("Texts");
        s.test("A text consists of one or more commands with \";\" between two of them", x -> {
            x.edition(0, 9, 1);
            s.dueAll(new int[] {read(x, "w0:1=2"), read(x, "w0:1=3;w0:2=4"), read(x, "w0:1=5;w0:2=6;w0:3=7")}, 1, 2, 3);
            s.dueAll(new int[] {x.bar(0, 1, 2), x.bar(0, 2, 2), x.bar(0, 3, 2)}, 5, 6, 7);
            dueFault(x, "", 0);
            dueFault(x, ";", 0);
            dueFault(x, ";w0:1=2", 0);
            dueFault(x, "w0:1=2;", 7);
            dueFault(x, "w0:1=2;;w0:1=2", 7);
            dueFault(x, "w0:1=2w0:1=2", 6);
            dueFault(x, "w0:1=2,w0:1=2", 6);
        });
        s.test("c edition \":\" bar \"-\" bar cuts bars", x -> {
            x.edition(0, 9, 1);
            x.edition(1, 9, 1);
            s.due(read(x, "c1:2-4"), 1);
            s.dueAll(new int[] {x.ofEdition(0, 1), x.ofEdition(1, 1), x.bar(1, 2, 0)}, 9, 6, 5);
            dueFault(x, "c1.2-4", 2);
            dueFault(x, "c1:2:4", 4);
        });
        s.test("i edition \":\" bar \"+\" count \"*\" beats inserts bars behind a bar", x -> {
            x.edition(0, 9, 1);
            x.edition(1, 9, 1);
            s.dueAll(new int[] {read(x, "i1:2+3*4"), read(x, "i1:0+1*9")}, 1, 1);
            s.dueAll(new int[] {x.ofEdition(0, 1), x.ofEdition(1, 1), x.bar(1, 1, 0), x.bar(1, 4, 0), x.bar(1, 6, 2)},
                9, 13, 13, 10, 4);
            dueFault(x, "i1:2-3*4", 4);
            dueFault(x, "i1:2+3+4", 6);
        });
        s.test("w edition \":\" bar \"=\" beats reworks a bar", x -> {
            x.edition(0, 9, 1);
            x.edition(1, 9, 1);
            s.due(read(x, "w1:2=7"), 1);
            s.dueAll(new int[] {x.bar(0, 2, 2), x.bar(1, 2, 2), x.bar(1, 2, 1)}, 1, 7, 1);
            dueFault(x, "w1:2-7", 4);
        });
        s.test("t edition \":\" bar \"=\" tenths sets a tempo", x -> {
            x.edition(0, 9, 1);
            x.edition(1, 9, 1);
            s.dueAll(new int[] {read(x, "t1:3=200"), read(x, "t1:4=2500"), read(x, "t1:4=0")}, 1, 1, 1);
            s.dueAll(new int[] {x.bar(0, 3, 3), x.bar(1, 3, 3), x.bar(1, 4, 3)}, NOTHING, 200, NOTHING);
            dueFault(x, "t1:3*200", 4);
        });
        s.test("b edition \".\" instrument \":\" bar \"=\" bowing sets a bowing", x -> {
            x.edition(0, 9, 1);
            x.edition(1, 9, 1);
            s.dueAll(new int[] {read(x, "b1.3:2=4"), read(x, "b1.0:9=1"), read(x, "b1.0:9=0")}, 1, 1, 1);
            s.dueAll(new int[] {x.bowing(1, 3, 2), x.bowing(1, 0, 9), x.bowing(0, 3, 2)}, 4, 0, 0);
            dueFault(x, "b1:3:2=4", 2);
            dueFault(x, "b1.3.2=4", 4);
        });
        s.test("l borrower \":\" edition \".\" instrument \"*\" copies \"/\" days lends", x -> {
            x.edition(0, 9, 1);
            x.derive(0);
            x.buy(1, 5, 30);
            x.pass(2);
            s.due(read(x, "l3:1.5*30/7"), 1);
            s.dueAll(new int[] {x.loan(0, 0), x.loan(0, 1), x.loan(0, 2), x.loan(0, 3), x.loan(0, 5)}, 3, 1, 5, 30, 9);
            dueFault(x, "l3.1.5*30/7", 2);
            dueFault(x, "l3:1:5*30/7", 4);
            dueFault(x, "l3:1.5/30*7", 6);
            dueFault(x, "l3:1.5*30-7", 9);
        });
        s.test("and r loan \":\" good \"+\" bad brings back", x -> {
            x.edition(0, 9, 1);
            x.buy(0, 5, 30);
            x.lend(0, 0, 5, 10, 0);
            x.lend(0, 0, 5, 20, 0);
            s.due(read(x, "r1:12+3"), 1);
            s.dueAll(new int[] {x.loan(0, 4), x.loan(1, 4), x.stock(0, 5, 1), x.stock(0, 5, 3)}, 10, 5, 12, 3);
            dueFault(x, "r1.2+3", 2);
            dueFault(x, "r1:2-3", 4);
        });
    }

    private void numbers() {
        s.test("Editions, instruments, borrowers, bowings and beats are single digits", x -> {
            dueFault(x, "c00:1-1", 2);
            dueFault(x, "i00:1+1*1", 2);
            dueFault(x, "i0:1+1*01", 8);
            dueFault(x, "w00:1=1", 2);
            dueFault(x, "w0:1=01", 6);
            dueFault(x, "t00:1=200", 2);
            dueFault(x, "b00.1:1=1", 2);
            dueFault(x, "b0.01:1=1", 4);
            dueFault(x, "b0.1:1=01", 8);
            dueFault(x, "l00:0.1*1/1", 2);
            dueFault(x, "l0:00.1*1/1", 4);
            dueFault(x, "l0:0.01*1/1", 6);
            dueFault(x, "c:1-1", 1);
            dueFault(x, "w0:1=", 5);
            s.dueAll(new int[] {read(x, "w9:1=9"), read(x, "b9.9:1=9"), read(x, "l9:9.9*1/1")}, STATE, STATE, STATE);
        });
        s.test("other numbers have 1 to 4 digits, also with zeros at the front", x -> {
            x.edition(0, 99, 1);
            x.buy(0, 0, 30);
            x.derive(0);
            s.due(read(x, "c1:0098-0099;i1:0000+0001*1;w1:0002=3;t1:0003=0200"), 4);
            s.dueAll(new int[] {x.ofEdition(1, 1), x.bar(1, 2, 2), x.bar(1, 3, 3)}, 98, 3, 200);
            s.due(read(x, "b1.0:0004=1;l0:0.0*0002/0003;r0000:0001+0001"), 3);
            s.dueAll(new int[] {x.bowing(1, 0, 4), x.loan(0, 3), x.loan(0, 4), x.loan(0, 5)}, 1, 2, 0, 3);
            dueFault(x, "c0:00001-1", 7);
            dueFault(x, "c0:1-00001", 9);
            dueFault(x, "i0:00001+1*1", 7);
            dueFault(x, "i0:1+00001*1", 9);
            dueFault(x, "w0:00001=1", 7);
            dueFault(x, "t0:00001=200", 7);
            dueFault(x, "t0:1=00200", 9);
            dueFault(x, "b0.0:00001=1", 9);
            dueFault(x, "l0:0.0*00001/1", 11);
            dueFault(x, "l0:0.0*1/00001", 13);
            dueFault(x, "r00000:1+1", 5);
            dueFault(x, "r0:00001+1", 7);
            dueFault(x, "r0:1+00001", 9);
            dueFault(x, "c0:-1", 3);
            dueFault(x, "r:1+1", 1);
            s.due(read(x, "c1:9999-9999"), STATE);
        });
        s.test("The input has at most 60 characters", x -> {
            x.edition(0, 9, 1);
            String text = "w0:1=1;w0:1=2;w0:1=3;w0:1=4;w0:1=5;w0:1=6;w0:1=7;c0:0002-003";
            s.due(text.length(), 60);
            for (int i = 0; i < 60; i++) {
                s.due(x.append(text.charAt(i)), i + 1);
            }
            s.dueAll(new int[] {x.append('4'), x.count(10), x.read(), x.ofEdition(0, 1), x.bar(0, 1, 2)},
                FULL, 60, 8, 7, 7);
        });
    }

    private void faultsAndFailures() {
        s.test("The fault position of a text is the index of its first character that cannot continue a text", x -> {
            dueFault(x, "x", 0);
            dueFault(x, " w0:1=1", 0);
            dueFault(x, "W0:1=1", 0);
            dueFault(x, "w 0:1=1", 1);
            dueFault(x, "w0:1=1 ", 6);
            dueFault(x, "w0:1 =1", 4);
            dueFault(x, "w0:1=1;x;y", 7);
            dueFault(x, "w/:1=1", 1);
            dueFault(x, "w::1=1", 1);
            dueFault(x, "t0:1=2a0", 6);
            dueFault(x, "t0:1=20000;t", 9);
        });
        s.test("or the length of the text if it ends too early", x -> {
            // Texts that become longer, and texts that are shorter than the one before.
            OrchestraLibrary y = new OrchestraLibrary();
            for (int length = 0; length <= 28; length++) {
                dueEnd(x, length);
                dueEnd(y, 28 - length);
            }
        });
        s.test("the length of the text if it ends", x -> {
            String text = "w0:1=1;w0:1=1;w0:1=1;w0:1=1;w0:1=1;w0:1=1;w0:1=1;";
            for (String end : new String[] {"c0:0001-01;", "c0:0001-01-", "i0:0001+11*", "i0:0001+999", "r0001:0001+"}) {
                s.due((text + end).length(), 60);
                dueFault(x, text + end, end.equals("c0:0001-01-") ? 59 : 60);
            }
        });
        s.test("A command fails if the call for it would return a code below 0 other than NOTHING", x -> {
            x.edition(0, 9, 1);
            x.derive(0);
            x.buy(1, 0, 1);
            s.due(read(x, "t0:1=500;t0:1=0"), 2);
            s.due(read(x, "t0:1=0;t0:2=0"), 2);
            s.due(x.bar(0, 1, 3), NOTHING);
            s.dueAll(new int[] {read(x, "t2:1=0"), x.failed(), read(x, "t0:1=0;t0:1=199"), x.failed()}, STATE, 0, STATE, 1);
            s.dueAll(new int[] {read(x, "t0:1=0;t0:2=0;i0:1+91*1"), x.failed()}, STATE, 2);
            s.dueAll(new int[] {read(x, "w1:1=1"), x.failed(), read(x, "b0.0:1=0"), read(x, "b0.4:1=0")}, STATE, 0, 1, STATE);
            s.dueAll(new int[] {read(x, "l0:1.0*2/0"), read(x, "l6:1.0*1/0"), read(x, "l0:1.0*1/1000"), read(x, "r0:1+0")},
                STATE, STATE, STATE, STATE);
        });
    }

    /** Reads the beginning of a text, which is whole at four lengths and ends too early at all others. */
    private void dueEnd(OrchestraLibrary x, int length) {
        boolean isWhole = length == 11 || length == 12 || length == 19 || length == 28;
        s.due(read(x, "l0:0.0*11/22;r1:1+1;i0:1+1*1".substring(0, length)), isWhole ? STATE : BAD);
        s.due(x.faultPosition(), isWhole ? NOTHING : length);
    }

    private void append() {
        s.section("Promise 36");
        s.namesNoBoundary("Appends a character to the input");
        s.test("`c`: the character, 32 to 126", x -> {
            s.dueAll(new int[] {x.append(31), x.append(127), x.append(32), x.append(126)}, BAD, BAD, 1, 2);
        });
        s.test("Returns the length of the input", x -> {
            s.dueAll(new int[] {x.append('c'), x.append('0'), x.append(':'), x.read(), x.append('c')}, 1, 2, 3, BAD, 1);
            s.due(x.count(10), 1);
        });
        s.test("BAD", x -> {
            x.append('c');
            s.dueAll(new int[] {x.append(-1), x.append(0), x.append(31), x.append(127), x.append(128), x.append(255)},
                BAD, BAD, BAD, BAD, BAD, BAD);
            s.dueAll(new int[] {x.append(MIN), x.append(MAX), x.append(65536 + 'c'), x.append('c' - 256)},
                BAD, BAD, BAD, BAD);
            s.due(x.count(10), 1);
        });
        s.test("FULL if it has 60 characters", x -> {
            for (int i = 1; i <= 60; i++) {
                s.due(x.append('c'), i);
            }
            s.dueAll(new int[] {x.append('c'), x.append(31), x.append(127), x.count(10)}, FULL, BAD, BAD, 60);
            s.dueAll(new int[] {x.read(), x.append('c')}, BAD, 1);
        });
    }

    private void read() {
        s.section("Promise 37");
        s.test("Reads the input as a text and carries out its commands in their order, all of them or none", x -> {
            x.edition(0, 9, 1);
            x.derive(0);
            x.buy(1, 0, 9);
            s.due(read(x, "w0:1=5;c0:1-1;w0:1=6"), 3);
            s.dueAll(new int[] {x.bar(0, 1, 0), x.bar(0, 1, 2), x.bar(0, 1, 1), x.ofEdition(0, 1)}, 2, 6, 2, 8);
            s.due(read(x, "w0:1=7;i0:0+1*1;t0:1=500;b0.0:1=1;l0:1.0*4/0;r0:1+1;c0:8-9;c0:8-9"), BAD);
            s.due(read(x, "w0:1=7;i0:0+1*1;b0.0:1=1;l0:1.0*4/0;r0:1+1;c0:8-9;c0:8-9"), STATE);
            s.dueAll(new int[] {x.bar(0, 1, 0), x.bar(0, 1, 2), x.bar(0, 1, 1), x.ofEdition(0, 1)}, 2, 6, 2, 8);
            s.dueAll(new int[] {x.ofEdition(0, 5), x.count(1), x.stock(1, 0, 1), x.count(7)}, 0, 0, 9, 0);
            s.dueAll(new int[] {x.rework(0, 1, 1), x.insert(0, 0, 1, 1), x.bar(0, 1, 0)}, 3, 9, 10);
        });
        s.test("The input is empty then, whatever is returned", x -> {
            x.edition(0, 9, 1);
            s.dueAll(new int[] {read(x, "w0:1=1"), x.count(10)}, 1, 0);
            s.dueAll(new int[] {read(x, "w0:1=0"), x.count(10)}, STATE, 0);
            s.dueAll(new int[] {read(x, "w0:1"), x.count(10)}, BAD, 0);
            s.dueAll(new int[] {x.read(), x.count(10), x.faultPosition()}, BAD, 0, 0);
        });
        s.test("Returns the number of commands", x -> {
            x.edition(0, 9, 1);
            s.due(read(x, "w0:1=1;w0:1=2;w0:1=3;w0:1=4;w0:1=5;w0:1=6;w0:1=7;w0:1=8"), 8);
            s.due(x.bar(0, 1, 1), 8);
            s.due(read(x, "t0:1=0"), 1);
        });
        s.test("BAD if the text has a fault", x -> {
            x.edition(0, 9, 1);
            s.dueAll(new int[] {x.read(), read(x, "w0:1=2;"), read(x, "w0:1=2;w"), read(x, "w0:1=0;?")}, BAD, BAD, BAD, BAD);
            s.dueAll(new int[] {x.bar(0, 1, 2), x.bar(0, 1, 1), x.count(9), x.failed()}, 1, 0, 1, NOTHING);
        });
        s.test("STATE if a command fails, whose number is kept", x -> {
            x.edition(0, 9, 1);
            s.dueAll(new int[] {read(x, "w0:1=0"), x.failed()}, STATE, 0);
            s.due(read(x, "w0:1=1;w0:1=2;w0:1=3;w0:1=4;w0:1=5;w0:1=6;w0:1=7;w0:1=0"), STATE);
            s.dueAll(new int[] {x.failed(), x.count(9), x.bar(0, 1, 1)}, 7, 1, 0);
            s.dueAll(new int[] {read(x, "w0:1=1;w0:1=0;w0:0=0"), x.failed()}, STATE, 1);
        });
    }

    private void faultPosition() {
        s.section("Promise 38");
        s.test("Returns the fault position of the text of the latest call of read", x -> {
            x.edition(0, 9, 1);
            read(x, "w0");
            s.due(x.faultPosition(), 2);
            read(x, "w0:1=");
            s.due(x.faultPosition(), 5);
            x.append('w');
            s.dueAll(new int[] {x.faultPosition(), x.read(), x.faultPosition()}, 5, BAD, 1);
        });
        s.test("Returns the fault position, or NOTHING if that text had no fault or read has not been called", x -> {
            s.due(x.faultPosition(), NOTHING);
            x.append('w');
            s.due(x.faultPosition(), NOTHING);
            x.read();
            s.due(x.faultPosition(), 1);
            read(x, "w0:1=1");
            s.due(x.faultPosition(), NOTHING);
            x.read();
            x.edition(0, 9, 1);
            s.due(x.faultPosition(), 0);
            read(x, "w0:1=1");
            s.due(x.faultPosition(), NOTHING);
        });
    }

    private void failed() {
        s.section("Promise 39");
        s.test("Returns the number of the command that failed in the latest call of read that returned STATE", x -> {
            x.edition(0, 9, 1);
            read(x, "w0:1=1;w0:1=0");
            s.due(x.failed(), 1);
            read(x, "w0:1=1");
            s.due(x.failed(), 1);
            read(x, "w0:1=");
            s.due(x.failed(), 1);
            read(x, "w0:0=1");
            s.due(x.failed(), 0);
        });
        s.test("Returns the number, from 0, or NOTHING if there was no such call", x -> {
            x.edition(0, 9, 1);
            s.due(x.failed(), NOTHING);
            read(x, "w0:1=1");
            s.due(x.failed(), NOTHING);
            read(x, "w");
            s.due(x.failed(), NOTHING);
            x.rework(0, 1, 0);
            s.due(x.failed(), NOTHING);
            read(x, "w0:1=0");
            s.due(x.failed(), 0);
        });
    }

    private void refusal() {
        s.section("Promise 40");
        s.test("Returns the reason for which something was refused last, by a call or by a command of a text", x -> {
            x.edition(0, 9, 1);
            x.buy(0, 0, 1);
            x.rework(0, 1, 1);
            s.due(x.refusal(), 4);
            read(x, "l0:0.0*2/0");
            s.due(x.refusal(), 1);
            read(x, "t0:1=500;w0:1=1");
            s.due(x.refusal(), 4);
            read(x, "t0:1=0;l0:0.0*1/0;r0:2+0");
            s.due(x.refusal(), 5);
            read(x, "w0:0=1");
            read(x, "w0");
            x.lend(0, 0, 0, 1, 0);
            s.due(x.refusal(), 5);
            x.lendAll(0, 0, 0);
            s.due(x.refusal(), 6);
        });
        s.test("Returns the reason, 1 to 6, or NOTHING if nothing was refused", x -> {
            s.due(x.refusal(), NOTHING);
            x.edition(0, 9, 1);
            x.cut(0, 1, 9);
            x.edition(0, 9, 1);
            x.insert(0, 0, 99, 1);
            s.due(x.refusal(), NOTHING);
            x.buy(0, 0, 30);
            x.cut(0, 1, 9);
            x.insert(0, 0, 91, 1);
            s.due(x.refusal(), NOTHING);
            dueReason(x, x.lend(0, 0, 1, 1, 0), 1);
            dueReason(x, x.insert(0, 0, 1, 1), 4);
            dueReason(x, x.lendAll(0, 0, 0), 6);
            x.lend(0, 0, 0, 1, 0);
            dueReason(x, x.bring(0, 1, 1), 5);
            x.pass(1);
            dueReason(x, x.lend(0, 0, 0, 1, 0), 2);
            for (int loan = 1; loan < 20; loan++) {
                x.lend(1, 0, 0, 1, 9);
            }
            dueReason(x, x.lend(1, 0, 0, 1, 9), 3);
        });
    }

    private void dueReason(OrchestraLibrary x, int answer, int reason) {
        s.due(answer, REFUSED);
        s.due(x.refusal(), reason);
    }
}
