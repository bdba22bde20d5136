/** Sentences on edges of the journal, snapshots and power failures: part 5 and promises 33 to 36. */
public final class EdgeJournalTest {
    public static void main(String[] args) throws Exception {
        Sentences.run(EdgeJournalTest.class);
    }

    private interface Call {
        int make(PaymentSwitch x);
    }

    /** Payment 1 is DONE, 2 is CHARGED, 3 is REPRESENTED, 4 is HELD; no block of the journal is used. */
    private static PaymentSwitch rich(int journal) {
        PaymentSwitch x = Fixture.opened(journal, 100, 50, 20, 8);
        for (int i = 1; i <= 4; i++) {
            Fixture.ask(x, i, 0, 100 * i);
            if (i < 4) {
                Fixture.present(x, i, 10 + i, 100 * i, 0);
            }
            x.checkpoint();
        }
        x.charge(2, 50);
        x.charge(3, 60);
        x.represent(3);
        x.checkpoint();
        return x;
    }

    /** Every call that is written, as it is made on a rich object. */
    private static final Call[] WRITTEN = {
        x -> x.ticks(3),
        x -> x.block(0, true),
        x -> x.charge(1, 70),
        x -> x.represent(2),
        x -> x.decide(3, true),
        x -> x.decide(3, false),
        PaymentSwitch::cutoff,
        x -> Fixture.ask(x, 20, 0, 5),
        x -> Fixture.present(x, 4, 20, 5, 1),
        x -> Fixture.undo(x, 4, 20, 7),
        x -> Wire.reversal(420, 1, 20).send(x),
        x -> Wire.totals(500, 0, 20).send(x),
    };
    private static final int FIRST_MESSAGE = 7;

    // ---- blocks

    @Sentence("Each call of ticks(), block(), charge(), represent(), decide(), cutoff() that is accepted, and each message "
            + "as told, is written: one block")
    static void oneBlockEach(Check check) {
        for (int i = 0; i < WRITTEN.length; i++) {
            PaymentSwitch x = rich(4);
            int written = x.count(3);
            WRITTEN[i].make(x);
            check.same("used by call " + i, x.count(2), 1);
            check.same("written by call " + i, x.count(3) - written, 1);
        }
    }

    @Sentence("if none is left, the call answers FULL, and nothing changes")
    static void noBlockIsLeft(Check check) {
        for (int i = 0; i < WRITTEN.length; i++) {
            PaymentSwitch x = rich(4);
            check.same("blocks were left", Fixture.fill(x), 4);
            String before = Picture.ofState(x);
            check.same("call " + i, WRITTEN[i].make(x), i < FIRST_MESSAGE ? PaymentSwitch.FULL : 96);
            check.text("behind call " + i, Picture.ofState(x), before);
        }
    }

    @Sentence("if none is left, the call answers FULL, and nothing changes")
    static void theLastBlock(Check check) {
        for (int i = 0; i < WRITTEN.length; i++) {
            PaymentSwitch x = rich(4);
            x.ticks(1);
            x.ticks(1);
            x.ticks(1);
            int got = WRITTEN[i].make(x);
            check.yes("call " + i, got != PaymentSwitch.FULL && got != 96);
            check.same("all blocks", x.count(2), 4);
            check.same("no more", x.ticks(1), PaymentSwitch.FULL);
        }
    }

    @Sentence("Of several exceptions the one named first is thrown, before anything is answered (BAD and others)")
    static void exceptionsAheadOfFull(Check check) {
        PaymentSwitch x = rich(4);
        Fixture.fill(x);
        check.badArgument("ticks", () -> x.ticks(0));
        check.badArgument("block", () -> x.block(5, true));
        check.badArgument("charge", () -> x.charge(1, 0));
        check.badArgument("charge of none", () -> x.charge(9, 1));
        check.badArgument("represent", () -> x.represent(9));
        check.badArgument("decide", () -> x.decide(9, true));
        check.badState("recover", x::recover);
    }

    @Sentence("a call that throws changes nothing")
    static void refusedCallsWriteNothing(Check check) {
        PaymentSwitch x = rich(4);
        x.crash(1);
        String before = Picture.ofState(x);
        check.badArgument("ticks", () -> x.ticks(1001));
        check.badArgument("block", () -> x.block(-1, true));
        check.badArgument("charge", () -> x.charge(1, -1));
        check.badArgument("represent", () -> x.represent(0));
        check.badArgument("decide", () -> x.decide(0, true));
        check.badArgument("crash", () -> x.crash(1001));
        check.badState("recover", x::recover);
        check.badState("open", x::open);
        check.badState("acquirer", () -> x.acquirer(1));
        check.text("nothing changed", Picture.ofState(x), before);
        check.same("what crash said stays", x.ticks(1), PaymentSwitch.CUT);
    }

    // ---- snapshots

    @Sentence("a block for each 8 accounts")
    static void blocksForAccounts(Check check) {
        for (int accounts = 0; accounts <= 64; accounts++) {
            PaymentSwitch x = new PaymentSwitch(4);
            x.issuer(0);
            for (int i = 0; i < accounts; i++) {
                x.account(0, 0, 0);
            }
            x.open();
            check.same("with " + accounts + " accounts", x.checkpoint(), (accounts + 7) / 8 + 1);
        }
    }

    @Sentence("each 4 payments, and each 2 answers kept, or part of these")
    static void blocksForPaymentsAndAnswers(Check check) {
        PaymentSwitch x = Fixture.opened(30);
        check.same("none", x.checkpoint(), 1 + 1);
        x.message(420);
        x.digits(2, 5);
        x.digits(32, 1);
        x.original(0, 0, 0);
        for (int i = 1; i <= 60; i++) {
            x.digits(11, i);
            x.letters(37, i, 0);
            Fixture.sent(x);
            int answers = Math.min(i, 24);
            check.same("with " + i, x.checkpoint(), 1 + (i + 3) / 4 + (answers + 1) / 2 + 1);
        }
    }

    @Sentence("each 4 payments, and each 2 answers kept, or part of these")
    static void blocksForAnswersAlone(Check check) {
        PaymentSwitch x = Fixture.opened(30);
        for (int i = 1; i <= 30; i++) {
            x.total(0, i);
            x.send();
            check.same("with " + i, x.checkpoint(), 1 + (Math.min(i, 24) + 1) / 2 + 1);
        }
    }

    @Sentence("each 4 payments, and each 2 answers kept, or part of these")
    static void theForgottenTakeNoBlock(Check check) {
        PaymentSwitch x = Fixture.opened(30);
        Fixture.advise(x, 9);
        check.same("with 9", x.checkpoint(), 1 + 3 + 5 + 1);
        x.cutoff();
        check.same("with none", x.checkpoint(), 1 + 0 + 5 + 1);
    }

    @Sentence("and then one more: then no block of the journal is used")
    static void snapshotsEmptyTheJournal(Check check) {
        PaymentSwitch x = new PaymentSwitch(4);
        x.open();
        check.same("of nothing", x.checkpoint(), 1);
        check.same("blocks written", x.count(3), 1);
        check.same("none is used", x.count(2), 0);
        check.same("all blocks", Fixture.fill(x), 4);
        check.same("a full journal", x.count(2), 4);
        check.same("is no hindrance", x.checkpoint(), 1);
        check.same("none is used again", x.count(2), 0);
        check.same("all blocks again", Fixture.fill(x), 4);
        check.same("blocks written in all", x.count(3), 10);
        check.same("TIME", x.count(5), 8);
    }

    @Sentence("CHECKPOINT: how many blocks were written; CUT. Illegal state.")
    static void statesOfCheckpoint(Check check) {
        PaymentSwitch x = Fixture.told(4);
        check.badState("in the TABLE", x::checkpoint);
        x.open();
        check.same("blocks", x.checkpoint(), 2);
        x.crash(2);
        check.same("CUT", x.checkpoint(), PaymentSwitch.CUT);
        check.badState("when DOWN", x::checkpoint);
        x.recover();
        check.same("nothing was written then", x.count(3), 4);
    }

    @Sentence("then no block of the journal is used")
    static void snapshotsChangeNothingElse(Check check) {
        PaymentSwitch x = rich(4);
        x.ticks(1);
        String before = Picture.ofState(x).replaceAll("count 0 [23] .*\n", "");
        x.checkpoint();
        check.text("all is the same", Picture.ofState(x).replaceAll("count 0 [23] .*\n", ""), before);
    }

    // ---- power

    @Sentence("crash(n) says that it fails when n more blocks were written.")
    static void afterSoManyBlocks(Check check) {
        for (int n = 1; n <= 30; n++) {
            PaymentSwitch x = Fixture.opened(30);
            x.crash(n);
            for (int i = 1; i < n; i++) {
                check.same("block " + i + " of " + n, x.ticks(1), i);
                check.no("down", x.isDown());
            }
            check.same("the last of " + n, x.ticks(1), PaymentSwitch.CUT);
            check.yes("down", x.isDown());
            check.same("blocks of the journal", x.recover(), n);
            check.same("TIME", x.count(5), n);
        }
    }

    @Sentence("What writes the last of them answers CUT, and is there behind recovery")
    static void everyCallIsCut(Check check) {
        for (int i = 0; i < WRITTEN.length; i++) {
            PaymentSwitch steady = rich(4);
            PaymentSwitch x = rich(4);
            WRITTEN[i].make(steady);
            x.crash(1);
            check.same("call " + i, WRITTEN[i].make(x), PaymentSwitch.CUT);
            check.yes("down", x.isDown());
            check.same("blocks of the journal", x.recover(), 1);
            check.text("behind call " + i, Picture.ofState(x), Picture.ofState(steady));
        }
    }

    @Sentence("the answer of such a message is none")
    static void noAnswerWhenCut(Check check) {
        for (int i = FIRST_MESSAGE; i < WRITTEN.length; i++) {
            PaymentSwitch steady = rich(4);
            PaymentSwitch x = rich(4);
            int due = WRITTEN[i].make(steady);
            x.crash(1);
            WRITTEN[i].make(x);
            check.same("size when DOWN", x.size(), 0);
            check.badArgument("byte 0", () -> x.byteAt(0));
            x.recover();
            check.same("size behind recovery", x.size(), 0);
            check.same("message " + i + " is answered again", x.send(), due);
            check.text("as it was", Fixture.answerOf(x), Fixture.answerOf(steady));
            check.same("without a block", x.count(2), 1);
        }
    }

    @Sentence("(a snapshot just if that was its last block; else all is as it was before it, blocks of the journal used with "
            + "it, but not how many blocks were written so far)")
    static void snapshotsThatAreCut(Check check) {
        int blocks = rich(4).checkpoint();
        for (int n = 1; n < blocks; n++) {
            PaymentSwitch x = rich(4);
            x.ticks(1);
            x.ticks(1);
            int written = x.count(3);
            String before = Picture.ofState(x).replaceAll("count 0 3 .*\n", "");
            x.crash(n);
            check.same("cut at block " + n, x.checkpoint(), PaymentSwitch.CUT);
            check.yes("down", x.isDown());
            check.same("blocks of the journal", x.recover(), 2);
            check.same("blocks written", x.count(3) - written, n);
            check.text("all is as it was", Picture.ofState(x).replaceAll("count 0 3 .*\n", ""), before);
        }
    }

    @Sentence("(a snapshot just if that was its last block")
    static void snapshotsThatAreCutAtTheirEnd(Check check) {
        PaymentSwitch x = rich(4);
        int blocks = x.checkpoint();
        x.ticks(1);
        int written = x.count(3);
        x.crash(blocks);
        check.same("cut at its last block", x.checkpoint(), PaymentSwitch.CUT);
        check.same("blocks of the journal", x.recover(), 0);
        check.same("blocks written", x.count(3) - written, blocks);
        x.crash(blocks + 1);
        check.same("one block is left", x.checkpoint(), blocks);
        check.no("it does not fail yet", x.isDown());
        check.same("then it does", x.ticks(1), PaymentSwitch.CUT);
        check.same("behind the snapshot", x.recover(), 1);
    }

    @Sentence("else all is as it was before it, blocks of the journal used with it")
    static void fullJournalStaysFull(Check check) {
        PaymentSwitch x = Fixture.opened(4);
        Fixture.fill(x);
        x.crash(1);
        check.same("cut", x.checkpoint(), PaymentSwitch.CUT);
        check.same("four blocks", x.recover(), 4);
        check.same("none is left", x.ticks(1), PaymentSwitch.FULL);
        check.same("a whole one", x.checkpoint(), 2);
        check.same("helps", x.ticks(1), 5);
    }

    @Sentence("crash(n) says that it fails when n more blocks were written.")
    static void whatWritesNoBlock(Check check) {
        PaymentSwitch x = rich(4);
        x.crash(1);
        check.same("a block that is not new", x.block(0, false), 0);
        check.same("STATE", x.charge(2, 1), PaymentSwitch.STATE);
        check.same("an answer again", Fixture.ask(x, 4, 0, 400), 0);
        check.same("94", Fixture.ask(x, 4, 0, 401), 94);
        check.same("3", Wire.totals(500, 2, 50).send(x), 3);
        check.same("30", new Wire(100).send(x), 30);
        check.same("800", Wire.network(800, 1).send(x), 0);
        x.trim(1);
        check.same("FAULT", x.send(), PaymentSwitch.FAULT);
        check.no("nothing fails", x.isDown());
        check.same("a tick does", x.ticks(1), PaymentSwitch.CUT);
        PaymentSwitch y = Fixture.opened(4);
        Fixture.fill(y);
        y.crash(1);
        check.same("FULL", y.ticks(1), PaymentSwitch.FULL);
        check.same("96", Fixture.ask(y, 1, 0, 1), 96);
        check.no("nothing fails there", y.isDown());
    }

    // ---- crash

    @Sentence("with n = 0 it fails at once; with NONE it will not.")
    static void atOnceOrNever(Check check) {
        PaymentSwitch x = Fixture.opened(30);
        x.crash(1);
        x.crash(PaymentSwitch.NONE);
        for (int i = 1; i <= 20; i++) {
            check.same("it will not", x.ticks(1), i);
        }
        x.crash(0);
        check.yes("at once", x.isDown());
        check.same("no block was written", x.recover(), 20);
        check.same("in all", x.count(3), 20);
    }

    @Sentence("The power will fail when n more blocks were written, whatever was said before")
    static void whateverWasSaidBefore(Check check) {
        PaymentSwitch x = Fixture.opened(30);
        x.crash(1);
        x.crash(3);
        check.same("later", x.ticks(1) * 10 + x.ticks(1), 12);
        x.crash(3);
        x.crash(1);
        check.same("sooner", x.ticks(1), PaymentSwitch.CUT);
        x.recover();
        x.crash(2);
        x.ticks(1);
        x.crash(2);
        check.same("anew", x.ticks(1), 5);
        check.same("and then", x.ticks(1), PaymentSwitch.CUT);
    }

    @Sentence("Illegal argument: n is not NONE .. 1000; illegal state.")
    static void boundsOfCrash(Check check) {
        PaymentSwitch x = Fixture.told(30);
        int[] out = {-2, 1001, Integer.MIN_VALUE, Integer.MAX_VALUE};
        for (int state = 0; state < 3; state++) {
            for (int n : out) {
                check.badArgument("crash " + n, () -> x.crash(n));
            }
            if (state != 1) {
                check.badState("crash(0)", () -> x.crash(0));
                check.badState("crash(NONE)", () -> x.crash(PaymentSwitch.NONE));
                check.badState("crash(1000)", () -> x.crash(1000));
            } else {
                x.crash(1000);
                x.crash(PaymentSwitch.NONE);
                check.no("down", x.isDown());
            }
            if (state == 0) {
                check.no("down", x.isDown());
                x.open();
            } else if (state == 1) {
                x.crash(0);
            }
        }
        check.yes("it stays DOWN", x.isDown());
    }

    @Sentence("n is not NONE .. 1000")
    static void aThousandBlocks(Check check) {
        PaymentSwitch x = new PaymentSwitch(4);
        x.issuer(0);
        for (int i = 0; i < 64; i++) {
            x.account(0, 0, 0);
        }
        x.open();
        x.crash(1000);
        for (int i = 0; i < 111; i++) {
            check.same("nine blocks", x.checkpoint(), 9);
        }
        check.same("block 1000", x.ticks(1), PaymentSwitch.CUT);
        x.recover();
        check.same("written", x.count(3), 1000);
    }

    // ---- recover

    @Sentence("Begins anew from the last snapshot and the journal: how many blocks of the journal are used.")
    static void recoveredFromTheJournalAlone(Check check) {
        PaymentSwitch x = Fixture.opened(30, 100, 50, 20, 8);
        Fixture.done(x, 100);
        x.charge(1, 30);
        x.ticks(3);
        Fixture.ask(x, 3, 2, 50);
        String before = Picture.of(x);
        x.crash(0);
        check.same("blocks", x.recover(), 5);
        check.text("all is there", Picture.of(x), before);
    }

    @Sentence("Begins anew from the last snapshot and the journal: how many blocks of the journal are used.")
    static void recoveredFromASnapshotAlone(Check check) {
        PaymentSwitch x = rich(30);
        x.cutoff();
        x.checkpoint();
        String before = Picture.of(x);
        x.crash(0);
        check.same("blocks", x.recover(), 0);
        check.text("all is there", Picture.of(x), before);
    }

    @Sentence("Begins anew from the last snapshot and the journal: how many blocks of the journal are used.")
    static void recoveredFromBoth(Check check) {
        for (int i = 0; i < WRITTEN.length; i++) {
            PaymentSwitch x = rich(30);
            x.block(1, true);
            WRITTEN[i].make(x);
            x.ticks(2);
            String before = Picture.of(x);
            x.crash(0);
            check.same("blocks", x.recover(), 3);
            check.text("all is there behind call " + i, Picture.of(x), before);
            check.same("the card is blocked", x.block(1, true), 0);
        }
    }

    @Sentence("Begins anew from the last snapshot and the journal")
    static void goesOnAsIfNothingWere(Check check) {
        PaymentSwitch steady = rich(30);
        PaymentSwitch x = rich(30);
        for (int i = 0; i < WRITTEN.length; i++) {
            int due = WRITTEN[i].make(steady);
            check.same("call " + i, WRITTEN[i].make(x), due);
            x.crash(0);
            x.recover();
        }
        check.text("all is the same", Picture.ofState(x), Picture.ofState(steady));
    }

    @Sentence("What crash() said is forgotten")
    static void whatCrashSaidIsForgotten(Check check) {
        PaymentSwitch x = Fixture.opened(30);
        x.crash(2);
        check.same("a snapshot", x.checkpoint(), PaymentSwitch.CUT);
        x.recover();
        for (int i = 1; i <= 9; i++) {
            check.same("it fails no more", x.ticks(1), i);
        }
    }

    @Sentence("the table, the draft, the tape and the last answer stay")
    static void whatStays(Check check) {
        PaymentSwitch x = Fixture.opened(30);
        Fixture.ask(x, 1, 0, 100);
        String answer = Fixture.answerOf(x);
        x.message(420);
        x.digits(11, 77);
        x.digits(95, 88);
        x.compose();
        String draft = Fixture.tapeOf(x);
        x.trim(5);
        x.feed(0xAB);
        String tape = Fixture.tapeOf(x);
        x.crash(0);
        check.text("the tape when DOWN", Fixture.tapeOf(x), tape);
        check.text("the answer when DOWN", Fixture.answerOf(x), answer);
        x.recover();
        check.text("the tape", Fixture.tapeOf(x), tape);
        check.text("the answer", Fixture.answerOf(x), answer);
        x.compose();
        check.text("the draft", Fixture.tapeOf(x), draft);
        check.same("the table", x.funds(3, 0), -100);
        check.same("its cards", x.ask(0, 0, 0, 4, 0, 0, 0), 53);
        Fixture.ask(x, 2, 2, 10);
        check.same("its rules", x.payment(2, 3), 100);
        check.badState("it is told no more", () -> x.issuer(0));
    }

    @Sentence("Illegal state: it is not DOWN, or it began anew 30 times (calls that threw are none).")
    static void thirtyTimes(Check check) {
        PaymentSwitch x = Fixture.told(30);
        check.badState("in the TABLE", x::recover);
        x.open();
        for (int i = 1; i <= 30; i++) {
            check.badState("when OPEN", x::recover);
            x.crash(i % 2);
            if (i % 2 == 1) {
                check.same("CUT", x.block(0, i % 4 == 1), PaymentSwitch.CUT);
            }
            check.same("time " + i, x.recover(), (i + 1) / 2);
            check.no("down", x.isDown());
        }
        x.crash(0);
        check.badState("time 31", x::recover);
        check.badState("and again", x::recover);
        check.yes("it stays DOWN", x.isDown());
        check.badState("for good", () -> x.count(0));
    }

    @Sentence("Whether it is DOWN; asked in all states.")
    static void whetherItIsDown(Check check) {
        PaymentSwitch x = new PaymentSwitch(4);
        check.no("in the TABLE", x.isDown());
        x.open();
        check.no("when OPEN", x.isDown());
        x.crash(2);
        check.no("when the power is about to fail", x.isDown());
        x.ticks(1);
        check.no("one block before", x.isDown());
        x.ticks(1);
        check.yes("when DOWN", x.isDown());
        check.yes("still", x.isDown());
        x.recover();
        check.no("behind recovery", x.isDown());
    }

    @Sentence("Illegal state, of calls that name it: it is not OPEN, or as told there (those that name none are done in all "
            + "states).")
    static void whatIsRefusedWhenDown(Check check) {
        PaymentSwitch x = rich(4);
        x.crash(0);
        check.badState("acquirer", () -> x.acquirer(0));
        check.badState("issuer", () -> x.issuer(0));
        check.badState("route", () -> x.route(0, 1, 1));
        check.badState("account", () -> x.account(0, 0, 0));
        check.badState("card", () -> x.card(Fixture.CARD_0, 0));
        check.badState("rules", () -> x.rules(1, 1, 1, 1));
        check.badState("open", x::open);
        check.badState("send", x::send);
        check.badState("ticks", () -> x.ticks(1));
        check.badState("block", () -> x.block(0, true));
        check.badState("charge", () -> x.charge(1, 1));
        check.badState("represent", () -> x.represent(2));
        check.badState("decide", () -> x.decide(3, true));
        check.badState("cutoff", x::cutoff);
        check.badState("checkpoint", x::checkpoint);
        check.badState("crash", () -> x.crash(5));
        check.badState("count", () -> x.count(0));
        check.badState("funds", () -> x.funds(0, 0));
        check.badState("payment", () -> x.payment(1, 0));
        check.badState("acquired", () -> x.acquired(0, 0));
        check.badState("issued", () -> x.issued(0, 0));
        check.badState("audit", x::audit);
        x.recover();
        check.text("nothing changed", Picture.ofState(x), Picture.ofState(rich(4)));
    }

    @Sentence("Illegal state, of calls that name it: it is not OPEN, or as told there")
    static void whatIsRefusedInTheTable(Check check) {
        PaymentSwitch x = Fixture.told(4);
        check.badState("total", () -> x.total(0, 0));
        check.badState("send", x::send);
        check.badState("ticks", () -> x.ticks(1));
        check.badState("block", () -> x.block(0, true));
        check.badState("cutoff", x::cutoff);
        check.badState("checkpoint", x::checkpoint);
        check.badState("crash", () -> x.crash(0));
        check.badState("recover", x::recover);
        check.badState("count", () -> x.count(0));
        check.badState("funds", () -> x.funds(0, 0));
        check.badState("acquired", () -> x.acquired(0, 0));
        check.badState("issued", () -> x.issued(0, 0));
        check.badState("audit", x::audit);
        x.open();
        check.text("nothing changed", Picture.ofState(x), Picture.ofState(Fixture.opened(4)));
    }
}
