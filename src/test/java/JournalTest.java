/** Promises 33 to 36 and part 5: the journal. */
public final class JournalTest {
    private static final Check CHECK = new Check();

    public static void main(String[] args) {
        snapshotsEmptyTheJournal();
        wrongStates();
        crashBounds();
        crashCounts();
        crashIsSaidAnew();
        snapshotIsCut();
        snapshotIsCutAtItsEnd();
        recoverTellsBlocks();
        recoverForgetsCrash();
        thirtyRecoveries();
        whatStaysBehindRecovery();
        CHECK.end();
    }

    private static void snapshotsEmptyTheJournal() {
        PaymentSwitch x = Fixture.opened(4);
        x.ticks(1);
        x.ticks(1);
        CHECK.same("used", x.count(2), 2);
        CHECK.same("checkpoint", x.checkpoint(), 2);
        CHECK.same("used no more", x.count(2), 0);
        CHECK.same("written", x.count(3), 4);
        CHECK.same("TIME stays", x.count(5), 2);
        CHECK.same("again", x.checkpoint(), 2);
    }

    private static void wrongStates() {
        PaymentSwitch x = Fixture.told(4);
        CHECK.badState("checkpoint in the TABLE", x::checkpoint);
        CHECK.badState("crash in the TABLE", () -> x.crash(0));
        CHECK.badState("recover in the TABLE", x::recover);
        CHECK.no("down in the TABLE", x.isDown());
        x.open();
        CHECK.badState("recover when OPEN", x::recover);
        CHECK.no("down when OPEN", x.isDown());
        x.crash(0);
        CHECK.yes("down when DOWN", x.isDown());
        CHECK.badState("checkpoint when DOWN", x::checkpoint);
        CHECK.badState("crash when DOWN", () -> x.crash(0));
        CHECK.badState("crash(NONE) when DOWN", () -> x.crash(PaymentSwitch.NONE));
        x.recover();
        CHECK.no("down behind recovery", x.isDown());
    }

    private static void crashBounds() {
        PaymentSwitch x = Fixture.told(4);
        CHECK.badArgument("crash(-2) in the TABLE", () -> x.crash(-2));
        x.open();
        CHECK.badArgument("crash(-2)", () -> x.crash(-2));
        CHECK.badArgument("crash(1001)", () -> x.crash(1001));
        x.crash(1000);
        x.crash(-1);
        CHECK.no("down", x.isDown());
        x.crash(0);
        CHECK.yes("at once", x.isDown());
        CHECK.badArgument("crash(1001) when DOWN", () -> x.crash(1001));
    }

    private static void crashCounts() {
        PaymentSwitch x = Fixture.opened(30);
        x.crash(3);
        CHECK.same("first", x.ticks(1), 1);
        CHECK.same("second", Fixture.ask(x, 1, 0, 100), 0);
        CHECK.same("repeated messages write nothing", x.send(), 0);
        CHECK.same("third", Fixture.ask(x, 2, 0, 100), PaymentSwitch.CUT);
        CHECK.yes("down", x.isDown());
        CHECK.same("blocks", x.recover(), 3);
        CHECK.same("it is there", x.payment(2, 1), 100);
        CHECK.same("it is answered", x.send(), 0);
        CHECK.same("written", x.count(3), 3);
        PaymentSwitch y = Fixture.opened(4);
        y.ticks(1);
        y.ticks(1);
        y.ticks(1);
        y.crash(2);
        CHECK.same("the last block", y.ticks(1), 4);
        CHECK.same("FULL writes nothing", y.ticks(1), PaymentSwitch.FULL);
        CHECK.same("96 writes nothing", Fixture.ask(y, 1, 0, 1), 96);
        CHECK.no("down", y.isDown());
        CHECK.same("a snapshot does", y.checkpoint(), PaymentSwitch.CUT);
    }

    private static void crashIsSaidAnew() {
        PaymentSwitch x = Fixture.opened(30);
        x.crash(1);
        x.crash(2);
        CHECK.same("first", x.ticks(1), 1);
        x.crash(PaymentSwitch.NONE);
        CHECK.same("second", x.ticks(1), 2);
        x.crash(2);
        x.ticks(1);
        x.crash(1);
        CHECK.same("third", x.ticks(1), PaymentSwitch.CUT);
    }

    private static void snapshotIsCut() {
        for (int n = 1; n <= 3; n++) {
            PaymentSwitch x = Fixture.opened(30);
            Fixture.ask(x, 1, 0, 100);
            x.ticks(1);
            x.crash(n);
            CHECK.same("a snapshot of four blocks", x.checkpoint(), PaymentSwitch.CUT);
            CHECK.yes("down", x.isDown());
            CHECK.same("blocks of the journal stay", x.recover(), 2);
            CHECK.same("they are used", x.count(2), 2);
            CHECK.same("written", x.count(3), 2 + n);
            CHECK.same("the payment is there", x.payment(1, 1), 100);
            CHECK.same("the TIME, too", x.count(5), 1);
            CHECK.same("whole then", x.checkpoint(), 4);
            CHECK.same("written then", x.count(3), 6 + n);
        }
    }

    private static void snapshotIsCutAtItsEnd() {
        PaymentSwitch x = Fixture.opened(30);
        Fixture.ask(x, 1, 0, 100);
        x.ticks(1);
        x.crash(4);
        CHECK.same("cut at its last block", x.checkpoint(), PaymentSwitch.CUT);
        CHECK.same("no block is used", x.recover(), 0);
        CHECK.same("written", x.count(3), 6);
        CHECK.same("the payment is there", x.payment(1, 1), 100);
        x.crash(5);
        CHECK.same("a whole snapshot", x.checkpoint(), 4);
        CHECK.no("down", x.isDown());
        CHECK.same("one block more", x.ticks(1), PaymentSwitch.CUT);
        CHECK.same("it is used", x.recover(), 1);
    }

    private static void recoverTellsBlocks() {
        PaymentSwitch x = Fixture.opened(30);
        x.crash(0);
        CHECK.same("none", x.recover(), 0);
        x.ticks(1);
        x.ticks(1);
        x.crash(0);
        CHECK.same("two", x.recover(), 2);
        CHECK.same("used", x.count(2), 2);
        CHECK.same("recovery writes nothing", x.count(3), 2);
    }

    private static void recoverForgetsCrash() {
        PaymentSwitch x = Fixture.opened(30);
        x.crash(1);
        x.ticks(1);
        x.recover();
        CHECK.same("no failure more", x.ticks(1), 2);
        x.crash(5);
        x.crash(0);
        x.recover();
        for (int i = 3; i < 12; i++) {
            CHECK.same("nor then", x.ticks(1), i);
        }
    }

    private static void thirtyRecoveries() {
        PaymentSwitch x = Fixture.opened(30);
        for (int i = 0; i < 30; i++) {
            CHECK.badState("a call that threw is none", x::recover);
            x.crash(0);
            CHECK.same("recover " + i, x.recover(), 0);
        }
        CHECK.same("it is OPEN", x.count(5), 0);
        x.crash(0);
        CHECK.badState("recover again", x::recover);
        CHECK.yes("it stays DOWN", x.isDown());
        CHECK.badState("for good", x::recover);
    }

    private static void whatStaysBehindRecovery() {
        PaymentSwitch x = Fixture.opened(30);
        Fixture.ask(x, 1, 0, 100);
        Fixture.present(x, 1, 2, 40, 1);
        String answer = Fixture.answerOf(x);
        x.block(1, true);
        x.ask(0, 0, 3, 0, 70, 0, 3);
        String tape = Fixture.tapeOf(x);
        x.crash(0);
        CHECK.text("the answer when DOWN", Fixture.answerOf(x), answer);
        x.recover();
        CHECK.text("the answer", Fixture.answerOf(x), answer);
        CHECK.text("the tape", Fixture.tapeOf(x), tape);
        x.compose();
        CHECK.text("the draft", Fixture.tapeOf(x), tape);
        CHECK.same("the card is blocked", x.block(1, true), 0);
        CHECK.same("held", x.funds(0, 1), 60);
        CHECK.same("balance", x.funds(0, 0), 9960);
        CHECK.same("batch", x.acquired(0, 3), 40);
        CHECK.same("position", x.acquired(0, 0), 39);
        CHECK.same("answers", x.count(1), 2);
        CHECK.same("answered again", Fixture.ask(x, 1, 0, 100), 0);
        CHECK.badState("the table is told no more", () -> x.acquirer(0));
    }
}
