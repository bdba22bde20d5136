/** Promises 27 to 32 and part 4: later. */
public final class LaterTest {
    private static final Check CHECK = new Check();

    public static void main(String[] args) {
        ticks();
        wrongTicks();
        holdsEnd();
        disputesEnd();
        block();
        wrongBlock();
        charge();
        chargeAnswers();
        wrongPaymentCalls();
        represent();
        decide();
        whenFull();
        whenCut();
        cutoff();
        forgotten();
        nothingStaysOfTheForgotten();
        CHECK.end();
    }

    private static void ticks() {
        PaymentSwitch x = Fixture.opened(30);
        CHECK.same("ticks(1)", x.ticks(1), 1);
        CHECK.same("ticks(1000)", x.ticks(1000), 1001);
        CHECK.same("TIME", x.count(5), 1001);
        CHECK.same("a block each", x.count(2), 2);
    }

    private static void wrongTicks() {
        PaymentSwitch x = Fixture.told(4);
        CHECK.badState("ticks in the TABLE", () -> x.ticks(1));
        CHECK.badArgument("ticks(0) in the TABLE", () -> x.ticks(0));
        x.open();
        CHECK.badArgument("ticks(0)", () -> x.ticks(0));
        CHECK.badArgument("ticks(-1)", () -> x.ticks(-1));
        CHECK.badArgument("ticks(1001)", () -> x.ticks(1001));
        x.crash(0);
        CHECK.badState("ticks when DOWN", () -> x.ticks(1));
        CHECK.badArgument("ticks(1001) when DOWN", () -> x.ticks(1001));
    }

    private static void holdsEnd() {
        PaymentSwitch x = Fixture.opened(30, 10, 50, 20, 8);
        Fixture.ask(x, 1, 0, 100);
        Fixture.ask(x, 2, 0, 200);
        Fixture.present(x, 2, 3, 50, 1);
        x.ticks(9);
        CHECK.same("HELD in tick 9", x.payment(1, 0) + x.payment(2, 0), 2);
        x.ticks(5);
        CHECK.same("RELEASED", x.payment(1, 0), 2);
        CHECK.same("not DONE", x.payment(1, 4), -1);
        CHECK.same("DONE", x.payment(2, 0), 3);
        CHECK.same("in its own tick", x.payment(2, 4), 10);
        CHECK.same("nothing is held", x.funds(0, 1) + x.payment(1, 1) + x.payment(2, 1), 0);
        CHECK.same("until nothing", x.payment(1, 3) + x.payment(2, 3), 0);
        CHECK.same("balance", x.funds(0, 0), 9950);
        CHECK.same("nothing else was cleared", x.acquired(0, 3), 50);
        x.ticks(16);
        CHECK.same("DISPUTE ticks ago", x.charge(2, 51), PaymentSwitch.MUCH);
        x.ticks(1);
        CHECK.same("more", x.charge(2, 51), PaymentSwitch.LATE);
        PaymentSwitch y = Fixture.opened(30, 10, 50, 20, 8);
        Fixture.ask(y, 1, 0, 100);
        y.ticks(10);
        CHECK.same("in tick 10", y.payment(1, 0), 2);
    }

    private static void disputesEnd() {
        PaymentSwitch x = Fixture.opened(30, 10, 50, 20, 8);
        Fixture.done(x, 100);
        x.charge(1, 40);
        x.ticks(20);
        CHECK.same("CHARGED still", x.payment(1, 8), 1);
        x.ticks(1);
        CHECK.same("WON", x.payment(1, 8), 3);
        CHECK.same("the amount", x.payment(1, 9), 40);
        CHECK.same("until", x.payment(1, 10), -1);
        CHECK.same("locked no more", x.funds(0, 2), 0);
        CHECK.same("balance", x.funds(0, 0), 9940);
        // 100 * 150 / 10000 is 1.5, up 2.
        CHECK.same("as charged", x.acquired(0, 0), 98 - 40);
        PaymentSwitch y = Fixture.opened(30, 10, 50, 20, 8);
        Fixture.done(y, 100);
        y.charge(1, 40);
        y.ticks(20);
        CHECK.same("represented in the last tick", y.represent(1), 1);
        CHECK.same("until then and DISPUTE", y.payment(1, 10), 40);
        y.ticks(20);
        CHECK.same("REPRESENTED still", y.payment(1, 8), 2);
        y.ticks(1);
        CHECK.same("LOST", y.payment(1, 8), 4);
        CHECK.same("locked no more", y.funds(0, 2), 0);
        CHECK.same("balance", y.funds(0, 0), 9900);
        CHECK.same("as cleared", y.acquired(0, 0), 98);
        CHECK.same("audit", y.audit(), 0);
    }

    private static void block() {
        PaymentSwitch x = Fixture.opened(30);
        CHECK.same("not blocked at first", x.block(0, false), 0);
        CHECK.same("new", x.block(0, true), 1);
        CHECK.same("not new", x.block(0, true), 0);
        CHECK.same("another card", x.block(4, true), 1);
        CHECK.same("no more", x.block(0, false), 1);
        CHECK.same("written if new", x.count(2), 3);
    }

    private static void wrongBlock() {
        PaymentSwitch x = Fixture.told(4);
        CHECK.badState("block in the TABLE", () -> x.block(0, true));
        CHECK.badArgument("card 5 in the TABLE", () -> x.block(5, true));
        x.open();
        CHECK.badArgument("card -1", () -> x.block(-1, true));
        CHECK.badArgument("card 5", () -> x.block(5, true));
        x.crash(0);
        CHECK.badState("block when DOWN", () -> x.block(0, true));
        CHECK.badState("block when DOWN, not new", () -> x.block(0, false));
        CHECK.badArgument("card 5 when DOWN", () -> x.block(5, true));
    }

    private static void charge() {
        PaymentSwitch x = Fixture.opened(30);
        Fixture.done(x, 1000);
        x.ticks(7);
        CHECK.same("charge", x.charge(1, 600), 1);
        CHECK.same("CHARGED", x.payment(1, 8), 1);
        CHECK.same("amount", x.payment(1, 9), 600);
        CHECK.same("until", x.payment(1, 10), 207);
        CHECK.same("balance", x.funds(0, 0), 9600);
        CHECK.same("locked", x.funds(0, 2), 600);
        CHECK.same("FREE", x.funds(0, 3), 9000);
        CHECK.same("acquirer", x.acquired(0, 0), 985 - 600);
        CHECK.same("issuer", x.issued(0, 0), 10 - 1000 + 600);
        CHECK.same("switch", x.issued(6, 0), 5);
        CHECK.same("batch stays", x.acquired(0, 3), 1000);
        CHECK.same("locked is not FREE", Fixture.ask(x, 9, 0, 9001), 51);
    }

    private static void chargeAnswers() {
        PaymentSwitch x = Fixture.opened(30, 10, 50, 20, 8);
        Fixture.ask(x, 1, 0, 100);
        CHECK.same("HELD", x.charge(1, 1), PaymentSwitch.STATE);
        Fixture.present(x, 1, 2, 30, 1);
        CHECK.same("HELD, some cleared", x.charge(1, 1), PaymentSwitch.STATE);
        Fixture.ask(x, 3, 0, 100);
        Fixture.undo(x, 2, 4, 0);
        CHECK.same("RELEASED", x.charge(2, Long.MAX_VALUE), PaymentSwitch.STATE);
        Fixture.present(x, 1, 5, 20, 0);
        CHECK.same("above what was cleared", x.charge(1, 51), PaymentSwitch.MUCH);
        x.ticks(21);
        CHECK.same("LATE is ahead of MUCH", x.charge(1, 51), PaymentSwitch.LATE);
        CHECK.same("nothing is locked", x.funds(0, 2), 0);
        Fixture.ask(x, 6, 0, 100);
        Fixture.present(x, 3, 7, 100, 0);
        x.ticks(20);
        CHECK.same("in the last tick", x.charge(3, 100), 1);
        CHECK.same("has a dispute", x.charge(3, 1), PaymentSwitch.STATE);
        x.ticks(21);
        CHECK.same("WON is a dispute, too", x.charge(3, 1), PaymentSwitch.STATE);
    }

    private static void wrongPaymentCalls() {
        PaymentSwitch x = Fixture.told(4);
        CHECK.badArgument("charge in the TABLE", () -> x.charge(1, 1));
        CHECK.badArgument("represent in the TABLE", () -> x.represent(1));
        CHECK.badArgument("decide in the TABLE", () -> x.decide(1, true));
        x.open();
        Fixture.done(x, 10);
        int[] none = {0, -1, 2, Integer.MAX_VALUE};
        for (int number : none) {
            CHECK.badArgument("charge " + number, () -> x.charge(number, 1));
            CHECK.badArgument("represent " + number, () -> x.represent(number));
            CHECK.badArgument("decide " + number, () -> x.decide(number, true));
        }
        CHECK.badArgument("charge nothing", () -> x.charge(1, 0));
        CHECK.badArgument("charge below 0", () -> x.charge(1, Long.MIN_VALUE));
        x.crash(0);
        CHECK.badState("charge when DOWN", () -> x.charge(1, 1));
        CHECK.badState("charge none when DOWN", () -> x.charge(9, 1));
        CHECK.badArgument("charge nothing when DOWN", () -> x.charge(9, 0));
        CHECK.badState("represent when DOWN", () -> x.represent(-9));
        CHECK.badState("decide when DOWN", () -> x.decide(-9, true));
        CHECK.badState("cutoff when DOWN", x::cutoff);
    }

    private static void represent() {
        PaymentSwitch x = Fixture.opened(30);
        Fixture.done(x, 1000);
        CHECK.same("no dispute", x.represent(1), PaymentSwitch.STATE);
        x.charge(1, 600);
        x.ticks(3);
        CHECK.same("represent", x.represent(1), 1);
        CHECK.same("REPRESENTED", x.payment(1, 8), 2);
        CHECK.same("amount", x.payment(1, 9), 600);
        CHECK.same("until", x.payment(1, 10), 203);
        CHECK.same("still locked", x.funds(0, 2), 600);
        CHECK.same("balance", x.funds(0, 0), 9600);
        CHECK.same("acquirer", x.acquired(0, 0), 985);
        CHECK.same("issuer", x.issued(0, 0), -990);
        CHECK.same("again", x.represent(1), PaymentSwitch.STATE);
    }

    private static void decide() {
        for (int won = 0; won < 2; won++) {
            PaymentSwitch x = Fixture.opened(30);
            Fixture.done(x, 1000);
            CHECK.same("no dispute", x.decide(1, true), PaymentSwitch.STATE);
            x.charge(1, 600);
            CHECK.same("CHARGED", x.decide(1, true), PaymentSwitch.STATE);
            x.represent(1);
            x.ticks(200);
            CHECK.same("decide in the last tick", x.decide(1, won == 1), 1);
            CHECK.same("WON or LOST", x.payment(1, 8), won == 1 ? 3 : 4);
            CHECK.same("amount", x.payment(1, 9), 600);
            CHECK.same("until", x.payment(1, 10), -1);
            CHECK.same("locked", x.funds(0, 2), 0);
            CHECK.same("balance", x.funds(0, 0), won == 1 ? 9600 : 9000);
            CHECK.same("FREE", x.funds(0, 3), won == 1 ? 9600 : 9000);
            CHECK.same("acquirer", x.acquired(0, 0), won == 1 ? 385 : 985);
            CHECK.same("issuer", x.issued(0, 0), won == 1 ? -390 : -990);
            CHECK.same("again", x.decide(1, true), PaymentSwitch.STATE);
            CHECK.same("represent", x.represent(1), PaymentSwitch.STATE);
            CHECK.same("charge", x.charge(1, 1), PaymentSwitch.STATE);
        }
    }

    private static void fill(PaymentSwitch x) {
        while (x.ticks(1) != PaymentSwitch.FULL) {
            CHECK.no("down", x.isDown());
        }
    }

    private static void whenFull() {
        PaymentSwitch x = Fixture.opened(4);
        Fixture.done(x, 100);
        fill(x);
        int time = x.count(5);
        CHECK.same("ticks", x.ticks(5), PaymentSwitch.FULL);
        CHECK.same("block", x.block(0, true), PaymentSwitch.FULL);
        CHECK.same("block that is not new", x.block(0, false), 0);
        CHECK.same("charge", x.charge(1, 100), PaymentSwitch.FULL);
        CHECK.same("MUCH is ahead of FULL", x.charge(1, 101), PaymentSwitch.MUCH);
        CHECK.same("STATE is ahead of FULL", x.represent(1), PaymentSwitch.STATE);
        CHECK.same("STATE is ahead of FULL, too", x.decide(1, true), PaymentSwitch.STATE);
        CHECK.same("cutoff", x.cutoff(), PaymentSwitch.FULL);
        CHECK.same("TIME", x.count(5), time);
        CHECK.same("no dispute", x.payment(1, 8), 0);
        CHECK.same("not settled", x.acquired(0, 1), 0);
        x.checkpoint();
        CHECK.same("charge then", x.charge(1, 100), 1);
        fill(x);
        CHECK.same("represent", x.represent(1), PaymentSwitch.FULL);
        CHECK.same("CHARGED still", x.payment(1, 8), 1);
        x.checkpoint();
        x.represent(1);
        fill(x);
        CHECK.same("decide", x.decide(1, true), PaymentSwitch.FULL);
        CHECK.same("REPRESENTED still", x.payment(1, 8), 2);
        CHECK.same("illegal arguments are ahead of FULL", x.count(2), 4);
        CHECK.badArgument("charge nothing", () -> x.charge(1, 0));
    }

    private static void whenCut() {
        PaymentSwitch x = Fixture.opened(30);
        Fixture.done(x, 100);
        x.crash(1);
        CHECK.same("ticks", x.ticks(5), PaymentSwitch.CUT);
        x.recover();
        CHECK.same("are there", x.count(5), 5);
        x.crash(1);
        CHECK.same("block that is not new", x.block(0, false), 0);
        CHECK.same("block", x.block(0, true), PaymentSwitch.CUT);
        x.recover();
        CHECK.same("is there", x.block(0, true), 0);
        x.crash(1);
        CHECK.same("charge", x.charge(1, 40), PaymentSwitch.CUT);
        x.recover();
        CHECK.same("is there", x.payment(1, 8), 1);
        x.crash(1);
        CHECK.same("represent", x.represent(1), PaymentSwitch.CUT);
        x.recover();
        CHECK.same("is there", x.payment(1, 8), 2);
        x.crash(1);
        CHECK.same("STATE writes nothing", x.represent(1), PaymentSwitch.STATE);
        CHECK.same("decide", x.decide(1, true), PaymentSwitch.CUT);
        x.recover();
        CHECK.same("is there", x.payment(1, 8), 3);
        x.crash(1);
        CHECK.same("cutoff", x.cutoff(), PaymentSwitch.CUT);
        x.recover();
        CHECK.same("is there", x.count(0), 0);
        CHECK.same("a block each", x.count(2), 8);
    }

    private static void cutoff() {
        PaymentSwitch x = Fixture.told(30);
        CHECK.badState("cutoff in the TABLE", x::cutoff);
        x.open();
        CHECK.same("nothing", x.cutoff(), 0);
        Fixture.done(x, 1000);
        CHECK.same("nothing to forget", x.cutoff(), 0);
        CHECK.same("acquirer", x.acquired(0, 0), 0);
        CHECK.same("issuer", x.issued(0, 0), 0);
        CHECK.same("switch", x.issued(6, 0), 0);
        CHECK.same("acquirer settled", x.acquired(0, 1), 985);
        CHECK.same("issuer settled", x.issued(0, 1), -990);
        CHECK.same("switch settled", x.issued(6, 1), 5);
        CHECK.same("batch stays", x.acquired(0, 3), 1000);
        x.charge(1, 100);
        CHECK.same("position", x.acquired(0, 0), -100);
        x.cutoff();
        CHECK.same("comes to what is settled", x.acquired(0, 1), 885);
        CHECK.same("of the issuer, too", x.issued(0, 1), -890);
    }

    private static void nothingStaysOfTheForgotten() {
        PaymentSwitch x = Fixture.opened(30);
        Fixture.done(x, 100);
        x.charge(1, 70);
        x.represent(1);
        x.decide(1, false);
        CHECK.same("forgotten", x.cutoff(), 1);
        x.message(420);
        x.digits(2, 5);
        x.digits(11, 9);
        x.digits(32, 1);
        x.letters(37, 3, 0);
        x.original(0, 0, 0);
        x.compose();
        x.send();
        long[] due = {2, 0, 0, 0, -1, -1, 1, 9, 0, 0, -1};
        for (int what = 0; what < due.length; what++) {
            CHECK.same("payment(2, " + what + ")", x.payment(2, what), due[what]);
        }
        Fixture.undo(x, 2, 10, 0);
        x.cutoff();
        Fixture.ask(x, 11, 0, 100);
        CHECK.same("nothing is cleared", x.payment(3, 2), 0);
        CHECK.same("undone", Fixture.undo(x, 3, 12, 0), 0);
        Fixture.ask(x, 13, 0, 100);
        CHECK.same("forgotten, not the one that is HELD", x.cutoff(), 1);
        x.ask(0, 1, 14, 2, 55, 0, 14);
        x.send();
        CHECK.same("each is itself", x.payment(4, 1) * 1000 + x.payment(5, 1), 100055);
    }

    private static void forgotten() {
        PaymentSwitch x = Fixture.opened(30, 100, 50, 20, 8);
        Fixture.ask(x, 1, 0, 100);
        Fixture.ask(x, 2, 0, 100);
        Fixture.ask(x, 3, 0, 100);
        Fixture.ask(x, 4, 0, 100);
        Fixture.ask(x, 5, 0, 100);
        for (int i = 1; i <= 4; i++) {
            Fixture.present(x, i, 10 + i, 100, 0);
        }
        x.charge(1, 10);
        x.charge(2, 10);
        x.represent(2);
        x.charge(3, 10);
        x.represent(3);
        x.decide(3, false);
        x.ticks(20);
        CHECK.same("LOST", x.cutoff(), 1);
        CHECK.badArgument("is no payment", () -> x.payment(3, 0));
        CHECK.badArgument("charge of it", () -> x.charge(3, 1));
        CHECK.same("HELD, DONE, CHARGED, REPRESENTED stay", x.count(0), 4);
        CHECK.same("payment 5 is itself", x.payment(5, 7), 5);
        x.ticks(1);
        CHECK.same("WON, LOST and DONE long ago", x.cutoff(), 3);
        CHECK.same("HELD stays", x.payment(5, 0), 1);
        CHECK.same("answers stay", x.count(1), 9);
        CHECK.same("approvals stay", x.funds(0, 4), 5);
        Fixture.undo(x, 5, 30, 0);
        CHECK.same("RELEASED", x.cutoff(), 1);
        CHECK.same("a forgotten payment's message is answered again", Fixture.ask(x, 5, 0, 100), 0);
        CHECK.same("without a payment", x.count(0), 0);
        x.ask(0, 0, 40, 0, 100, 0, 5);
        CHECK.same("its key is free", x.send(), 0);
        CHECK.same("numbers go on", x.payment(6, 0), 1);
        CHECK.same("audit", x.audit(), 0);
    }
}
