/** Sentences on edges of ticks, blocks, disputes, positions and cutoffs: part 4 and promises 27 to 32. */
public final class EdgeLaterTest {
    private static final int[] NO_PAYMENTS = {0, -1, 2, Integer.MIN_VALUE, Integer.MAX_VALUE};

    public static void main(String[] args) throws Exception {
        Sentences.run(EdgeLaterTest.class);
    }

    /** HOLD 10, WINDOW 50, DISPUTE 20, MANY 8. */
    private static PaymentSwitch brief() {
        return Fixture.opened(30, 10, 50, 20, 8);
    }

    /** Payment 1 of 100 is DONE in tick 0, and charged back with 40 in this tick. */
    private static PaymentSwitch charged(int tick) {
        PaymentSwitch x = brief();
        Fixture.done(x, 100);
        if (tick > 0) {
            x.ticks(tick);
        }
        x.charge(1, 40);
        return x;
    }

    // ---- ticks

    @Sentence("TIME is a number of ticks, 0 at first.")
    static void firstTime(Check check) {
        check.same("TIME", brief().count(5), 0);
        check.same("the first tick", brief().ticks(1), 1);
    }

    @Sentence("n ticks: the TIME; FULL; CUT. Illegal argument: n is not 1 .. 1000")
    static void howManyTicks(Check check) {
        PaymentSwitch x = Fixture.told(30);
        int[] out = {0, -1, 1001, Integer.MIN_VALUE, Integer.MAX_VALUE};
        for (int state = 0; state < 3; state++) {
            for (int n : out) {
                check.badArgument("ticks " + n, () -> x.ticks(n));
            }
            if (state == 0) {
                check.badState("in the TABLE", () -> x.ticks(1));
                x.open();
                check.same("nothing changed", x.count(5) + x.count(2), 0);
            } else if (state == 1) {
                check.same("1", x.ticks(1), 1);
                check.same("1000", x.ticks(1000), 1001);
                check.same("a block each", x.count(2), 2);
                x.crash(0);
            } else {
                check.badState("when DOWN", () -> x.ticks(1));
            }
        }
    }

    @Sentence("illegal state: also if TIME would be above 1000000.")
    static void lastTime(Check check) {
        // No object has calls enough to get there: what is told here is told by its words alone.
        PaymentSwitch x = Fixture.opened(30);
        for (int i = 0; i < 999; i++) {
            if (i % 30 == 0) {
                x.checkpoint();
            }
            x.ticks(1000);
        }
        x.checkpoint();
        check.same("999999", x.ticks(999), 999999);
        check.badState("1000001", () -> x.ticks(2));
        check.badState("1000999", () -> x.ticks(1000));
        check.same("1000000", x.ticks(1), 1000000);
        check.badState("1000001 again", () -> x.ticks(1));
        check.badArgument("the argument is asked first", () -> x.ticks(1001));
        check.same("TIME", x.count(5), 1000000);
        Fixture.ask(x, 1, 0, 5);
        check.same("held until a time that never comes", x.payment(1, 3), 1000100);
    }

    @Sentence("A payment that is HELD until this time is held no more: it is RELEASED if nothing of it is cleared, else "
            + "DONE.")
    static void holdsEndInTheirTick(Check check) {
        PaymentSwitch x = brief();
        Fixture.ask(x, 1, 0, 100);
        Fixture.ask(x, 2, 0, 100);
        Fixture.present(x, 2, 3, 1, 1);
        x.ticks(9);
        check.same("HELD in tick 9", x.payment(1, 0) * 10 + x.payment(2, 0), 11);
        check.same("held of the account", x.funds(0, 1), 199);
        x.ticks(1);
        check.same("RELEASED in tick 10", x.payment(1, 0), 2);
        check.same("DONE in tick 10", x.payment(2, 0), 3);
        check.same("at 10", x.payment(2, 4), 10);
        check.same("held of the account", x.funds(0, 1), 0);
        check.same("held of them", x.payment(1, 1) + x.payment(2, 1), 0);
        check.same("until", x.payment(1, 3) + x.payment(2, 3), 0);
        check.same("the RELEASED one is not DONE", x.payment(1, 4), PaymentSwitch.NONE);
        check.same("FREE", x.funds(0, 3), 9999);
    }

    @Sentence("A payment that is HELD until this time is held no more")
    static void holdsEndWithinOneCall(Check check) {
        PaymentSwitch x = brief();
        Fixture.ask(x, 1, 0, 100);
        Fixture.present(x, 1, 2, 1, 1);
        x.ticks(3);
        Fixture.ask(x, 3, 0, 100);
        Fixture.present(x, 2, 4, 1, 1);
        x.ticks(1000);
        check.same("each was DONE in its own tick", x.payment(1, 4) * 100 + x.payment(2, 4), 1013);
        check.same("that is LATE", x.charge(1, 1), PaymentSwitch.LATE);
    }

    @Sentence("A payment that is HELD until this time is held no more")
    static void sixtyHoldsEnd(Check check) {
        PaymentSwitch x = Fixture.opened(30, 5, 50, 20, 8);
        Fixture.advise(x, 58);
        x.checkpoint();
        Fixture.ask(x, 1, 0, 100);
        Fixture.ask(x, 2, 2, 100);
        check.same("60 payments", x.count(0), 60);
        x.ticks(5);
        check.same("the last two", x.payment(59, 0) * 10 + x.payment(60, 0), 22);
        check.same("nothing is held", x.funds(0, 1) + x.funds(1, 1), 0);
        check.same("all are forgotten", x.cutoff(), 60);
    }

    @Sentence("A tick: TIME grows by 1.")
    static void manyTicksAreOneByOne(Check check) {
        PaymentSwitch once = charged(0);
        PaymentSwitch each = charged(0);
        Fixture.ask(once, 5, 0, 50);
        Fixture.ask(each, 5, 0, 50);
        once.ticks(22);
        each.checkpoint();
        for (int i = 1; i <= 22; i++) {
            check.same("tick " + i, each.ticks(1), i);
        }
        String counts = "count 0 [23] .*\n";
        check.text("all is the same", Picture.ofState(once).replaceAll(counts, ""),
                Picture.ofState(each).replaceAll(counts, ""));
    }

    @Sentence("DISPUTES, of a payment that is DONE: none, CHARGED (with an amount, until TIME and DISPUTE), REPRESENTED "
            + "(likewise), WON, LOST.")
    static void untilTimeAndDispute(Check check) {
        PaymentSwitch x = charged(0);
        check.same("CHARGED in tick 0", x.payment(1, 10), 20);
        PaymentSwitch y = charged(20);
        check.same("CHARGED in tick 20", y.payment(1, 10), 40);
        y.represent(1);
        check.same("REPRESENTED in tick 20", y.payment(1, 10), 40);
        PaymentSwitch z = charged(20);
        z.ticks(20);
        z.represent(1);
        check.same("REPRESENTED in tick 40", z.payment(1, 10), 60);
        check.same("with the amount", z.payment(1, 9), 40);
    }

    @Sentence("A DISPUTE that is CHARGED until a time before this one is WON")
    static void chargedUntil(Check check) {
        PaymentSwitch x = charged(5);
        check.same("until", x.payment(1, 10), 25);
        x.ticks(20);
        check.same("CHARGED in tick 25", x.payment(1, 8), 1);
        check.same("locked", x.funds(0, 2), 40);
        long acquirer = x.acquired(0, 0);
        long issuer = x.issued(0, 0);
        x.ticks(1);
        check.same("WON in tick 26", x.payment(1, 8), 3);
        check.same("locked no more", x.funds(0, 2), 0);
        check.same("the balance stays", x.funds(0, 0), 9940);
        check.same("FREE", x.funds(0, 3), 9940);
        check.same("no position is moved", x.acquired(0, 0) - acquirer + x.issued(0, 0) - issuer, 0);
        check.same("its amount", x.payment(1, 9), 40);
        check.same("until", x.payment(1, 10), PaymentSwitch.NONE);
    }

    @Sentence("one that is REPRESENTED is LOST")
    static void representedUntil(Check check) {
        PaymentSwitch x = charged(5);
        x.ticks(7);
        x.represent(1);
        check.same("until", x.payment(1, 10), 32);
        x.ticks(20);
        check.same("REPRESENTED in tick 32", x.payment(1, 8), 2);
        check.same("locked", x.funds(0, 2), 40);
        long acquirer = x.acquired(0, 0);
        x.ticks(1);
        check.same("LOST in tick 33", x.payment(1, 8), 4);
        check.same("locked no more", x.funds(0, 2), 0);
        check.same("the balance is less", x.funds(0, 0), 9900);
        check.same("no position is moved", x.acquired(0, 0), acquirer);
        check.same("its amount", x.payment(1, 9), 40);
        check.same("until", x.payment(1, 10), PaymentSwitch.NONE);
    }

    // ---- block

    @Sentence("A card is blocked, or is not: 1 if that is new, 0 if not (nothing is written then)")
    static void blocks(Check check) {
        PaymentSwitch x = Fixture.opened(4);
        check.same("not blocked at first", x.block(0, false), 0);
        check.same("nothing is written", x.count(2) + x.count(3), 0);
        check.same("blocked", x.block(0, true), 1);
        check.same("blocked already", x.block(0, true), 0);
        check.same("one block", x.count(2), 1);
        check.same("not blocked", x.block(0, false), 1);
        check.same("two blocks", x.count(2), 2);
        x.crash(1);
        check.same("not new, with the power about to fail", x.block(0, false), 0);
        check.no("it does not fail", x.isDown());
        x.crash(PaymentSwitch.NONE);
        Fixture.fill(x);
        check.same("not new, with a full journal", x.block(0, false), 0);
        check.same("new, with a full journal", x.block(0, true), PaymentSwitch.FULL);
        check.same("it is not blocked", x.block(0, false), 0);
    }

    @Sentence("(nothing is written then); FULL; CUT. Illegal argument; illegal state.")
    static void noSuchCardToBlock(Check check) {
        PaymentSwitch x = Fixture.told(4);
        for (int state = 0; state < 3; state++) {
            int[] none = {-1, 5, 99, 100, Integer.MIN_VALUE, Integer.MAX_VALUE};
            for (int card : none) {
                check.badArgument("card " + card, () -> x.block(card, true));
                check.badArgument("card " + card + ", not new", () -> x.block(card, false));
            }
            if (state == 0) {
                check.badState("in the TABLE", () -> x.block(0, true));
                x.open();
                check.same("nothing changed", x.block(0, false), 0);
            } else if (state == 1) {
                check.same("the last card", x.block(4, true), 1);
                x.crash(0);
            } else {
                check.badState("when DOWN", () -> x.block(0, true));
                check.badState("when DOWN, not new", () -> x.block(4, true));
            }
        }
    }

    // ---- charge

    @Sentence("STATE: it is not DONE, or has a dispute")
    static void chargesOfOtherStates(Check check) {
        PaymentSwitch x = brief();
        Fixture.ask(x, 1, 0, 100);
        check.same("HELD", x.charge(1, 1), PaymentSwitch.STATE);
        Fixture.present(x, 1, 2, 50, 1);
        check.same("HELD, some cleared", x.charge(1, 1), PaymentSwitch.STATE);
        Fixture.ask(x, 3, 0, 100);
        Fixture.undo(x, 2, 4, 0);
        check.same("RELEASED", x.charge(2, 1), PaymentSwitch.STATE);
        Wire.reversal(420, 0, 5).send(x);
        check.same("advised", x.charge(3, Long.MAX_VALUE), PaymentSwitch.STATE);
        x.ticks(10);
        check.same("DONE by time", x.charge(1, 50), 1);
        check.same("CHARGED", x.charge(1, 1), PaymentSwitch.STATE);
        x.represent(1);
        check.same("REPRESENTED", x.charge(1, 1), PaymentSwitch.STATE);
        x.decide(1, false);
        check.same("LOST", x.charge(1, 1), PaymentSwitch.STATE);
        PaymentSwitch y = charged(0);
        y.represent(1);
        y.decide(1, true);
        check.same("WON", y.charge(1, 1), PaymentSwitch.STATE);
        y.ticks(50);
        check.same("STATE is ahead of LATE", y.charge(1, 1), PaymentSwitch.STATE);
    }

    @Sentence("LATE: it was DONE more than DISPUTE ticks ago")
    static void lateCharges(Check check) {
        PaymentSwitch x = brief();
        x.ticks(7);
        Fixture.done(x, 100);
        x.ticks(20);
        check.same("DISPUTE ticks ago", x.charge(1, 101), PaymentSwitch.MUCH);
        x.ticks(1);
        check.same("one more", x.charge(1, 100), PaymentSwitch.LATE);
        check.same("LATE is ahead of MUCH", x.charge(1, 101), PaymentSwitch.LATE);
        check.same("nothing is locked", x.funds(0, 2) + x.payment(1, 8), 0);
        PaymentSwitch y = charged(20);
        check.same("CHARGED in the last tick", y.payment(1, 8), 1);
        check.same("until", y.payment(1, 10), 40);
    }

    @Sentence("MUCH: the amount is above what was cleared of it")
    static void chargedAmounts(Check check) {
        PaymentSwitch x = brief();
        Fixture.ask(x, 1, 0, 100);
        Fixture.present(x, 1, 2, 30, 1);
        Fixture.present(x, 1, 3, 20, 0);
        check.same("the most", x.charge(1, Long.MAX_VALUE), PaymentSwitch.MUCH);
        check.same("what was held", x.charge(1, 100), PaymentSwitch.MUCH);
        check.same("one above", x.charge(1, 51), PaymentSwitch.MUCH);
        check.same("nothing changed", x.funds(0, 0), 9950);
        check.same("all that was cleared", x.charge(1, 50), 1);
        check.same("balance", x.funds(0, 0), 10000);
        PaymentSwitch y = brief();
        Fixture.done(y, 1);
        check.same("1 of 1", y.charge(1, 1), 1);
    }

    @Sentence("FULL; CUT (the first that is so)")
    static void fullIsBehindAllOfThem(Check check) {
        PaymentSwitch x = Fixture.opened(4, 10, 50, 2, 8);
        Fixture.done(x, 100);
        Fixture.ask(x, 3, 0, 100);
        x.ticks(1);
        check.same("STATE", x.charge(2, 1), PaymentSwitch.STATE);
        check.same("MUCH", x.charge(1, 101), PaymentSwitch.MUCH);
        check.same("FULL", x.charge(1, 100), PaymentSwitch.FULL);
        x.checkpoint();
        x.ticks(2);
        Fixture.fill(x);
        check.same("LATE", x.charge(1, 100), PaymentSwitch.LATE);
        check.same("no dispute", x.payment(1, 8), 0);
    }

    @Sentence("FULL; CUT (the first that is so)")
    static void refusedChargesWriteNothing(Check check) {
        PaymentSwitch x = brief();
        Fixture.done(x, 100);
        Fixture.ask(x, 3, 0, 100);
        x.crash(1);
        check.same("STATE", x.charge(2, 1), PaymentSwitch.STATE);
        check.same("MUCH", x.charge(1, 101), PaymentSwitch.MUCH);
        check.no("nothing fails", x.isDown());
        check.same("CUT", x.charge(1, 100), PaymentSwitch.CUT);
        check.yes("it fails", x.isDown());
    }

    @Sentence("Illegal argument: there is no such payment, or the amount is below 1; illegal state.")
    static void wrongCharges(Check check) {
        PaymentSwitch x = Fixture.told(30);
        check.badArgument("in the TABLE", () -> x.charge(1, 1));
        check.badArgument("nothing in the TABLE", () -> x.charge(1, 0));
        x.open();
        Fixture.done(x, 100);
        for (int number : NO_PAYMENTS) {
            check.badArgument("charge " + number, () -> x.charge(number, 1));
        }
        long[] below = {0, -1, Long.MIN_VALUE};
        for (long amount : below) {
            check.badArgument("amount " + amount, () -> x.charge(1, amount));
        }
        check.same("nothing changed", x.payment(1, 8), 0);
        x.crash(0);
        check.badState("when DOWN", () -> x.charge(1, 1));
        check.badState("none when DOWN", () -> x.charge(2, 1));
        check.badState("0 when DOWN", () -> x.charge(0, 1));
        check.badArgument("nothing when DOWN", () -> x.charge(1, 0));
        check.badArgument("nothing of none when DOWN", () -> x.charge(-1, -1));
        x.recover();
        check.same("1", x.charge(1, 1), 1);
    }

    @Sentence("charge(): the balance grows by the amount, which is LOCKED.")
    static void chargedIsLocked(Check check) {
        PaymentSwitch x = brief();
        Fixture.done(x, 10000);
        check.same("FREE", x.funds(0, 3), 0);
        x.charge(1, 10000);
        check.same("balance", x.funds(0, 0), 10000);
        check.same("locked", x.funds(0, 2), 10000);
        check.same("FREE still", x.funds(0, 3), 0);
        check.same("nothing of it can be held", Fixture.ask(x, 3, 0, 1), 51);
        check.same("audit", x.audit(), 0);
    }

    // ---- represent and decide

    @Sentence("A dispute that is CHARGED is REPRESENTED: 1; STATE; FULL; CUT. Illegal argument; illegal state.")
    static void representsOfOtherStates(Check check) {
        PaymentSwitch x = brief();
        Fixture.ask(x, 1, 0, 100);
        check.same("HELD", x.represent(1), PaymentSwitch.STATE);
        Fixture.present(x, 1, 2, 100, 0);
        check.same("no dispute", x.represent(1), PaymentSwitch.STATE);
        x.charge(1, 40);
        check.same("CHARGED", x.represent(1), 1);
        check.same("REPRESENTED", x.represent(1), PaymentSwitch.STATE);
        x.decide(1, true);
        check.same("WON", x.represent(1), PaymentSwitch.STATE);
        PaymentSwitch y = charged(0);
        y.represent(1);
        y.decide(1, false);
        check.same("LOST", y.represent(1), PaymentSwitch.STATE);
    }

    @Sentence("A dispute that is CHARGED is REPRESENTED: 1; STATE; FULL; CUT. Illegal argument; illegal state.")
    static void representsWithoutABlock(Check check) {
        PaymentSwitch x = Fixture.opened(4);
        Fixture.done(x, 100);
        Fixture.fill(x);
        check.same("STATE is ahead of FULL", x.represent(1), PaymentSwitch.STATE);
        x.checkpoint();
        x.charge(1, 40);
        Fixture.fill(x);
        check.same("FULL", x.represent(1), PaymentSwitch.FULL);
        check.same("CHARGED still", x.payment(1, 8), 1);
        x.checkpoint();
        x.crash(1);
        check.same("CUT", x.represent(1), PaymentSwitch.CUT);
        x.recover();
        check.same("REPRESENTED", x.payment(1, 8), 2);
        x.crash(1);
        check.same("STATE is ahead of CUT", x.represent(1), PaymentSwitch.STATE);
        check.no("nothing fails", x.isDown());
    }

    @Sentence("A dispute that is REPRESENTED is WON (for the card) or LOST: 1; STATE; FULL; CUT. Illegal argument; illegal "
            + "state.")
    static void decisionsOfOtherStates(Check check) {
        for (int i = 0; i < 2; i++) {
            boolean won = i == 1;
            PaymentSwitch x = brief();
            Fixture.ask(x, 1, 0, 100);
            check.same("HELD", x.decide(1, won), PaymentSwitch.STATE);
            Fixture.present(x, 1, 2, 100, 0);
            check.same("no dispute", x.decide(1, won), PaymentSwitch.STATE);
            x.charge(1, 40);
            check.same("CHARGED", x.decide(1, won), PaymentSwitch.STATE);
            x.represent(1);
            check.same("REPRESENTED", x.decide(1, won), 1);
            check.same("WON or LOST", x.payment(1, 8), won ? 3 : 4);
            check.same("again", x.decide(1, won), PaymentSwitch.STATE);
            check.same("the other way", x.decide(1, !won), PaymentSwitch.STATE);
        }
    }

    @Sentence("A dispute that is REPRESENTED is WON (for the card) or LOST: 1; STATE; FULL; CUT. Illegal argument; illegal "
            + "state.")
    static void decisionsWithoutABlock(Check check) {
        PaymentSwitch x = Fixture.opened(4);
        Fixture.done(x, 100);
        x.charge(1, 40);
        Fixture.fill(x);
        check.same("STATE is ahead of FULL", x.decide(1, true), PaymentSwitch.STATE);
        x.checkpoint();
        x.represent(1);
        Fixture.fill(x);
        check.same("FULL", x.decide(1, true), PaymentSwitch.FULL);
        check.same("REPRESENTED still", x.payment(1, 8), 2);
        x.checkpoint();
        x.crash(1);
        check.same("CUT", x.decide(1, true), PaymentSwitch.CUT);
        x.recover();
        check.same("WON", x.payment(1, 8), 3);
        x.crash(1);
        check.same("STATE is ahead of CUT", x.decide(1, true), PaymentSwitch.STATE);
        check.no("nothing fails", x.isDown());
    }

    @Sentence("calls of a payment are illegal state, behind what else of their arguments is out of its bounds")
    static void representAndDecideOfNone(Check check) {
        PaymentSwitch x = Fixture.told(30);
        check.badArgument("represent in the TABLE", () -> x.represent(1));
        check.badArgument("decide in the TABLE", () -> x.decide(1, true));
        x.open();
        Fixture.done(x, 100);
        for (int number : NO_PAYMENTS) {
            check.badArgument("represent " + number, () -> x.represent(number));
            check.badArgument("decide " + number, () -> x.decide(number, false));
        }
        x.crash(0);
        for (int number : NO_PAYMENTS) {
            check.badState("represent " + number + " when DOWN", () -> x.represent(number));
            check.badState("decide " + number + " when DOWN", () -> x.decide(number, false));
        }
        check.badState("represent 1 when DOWN", () -> x.represent(1));
        check.badState("decide 1 when DOWN", () -> x.decide(1, true));
    }

    @Sentence("(A dispute can still be represented or decided in the tick until which it is so.)")
    static void inTheLastTick(Check check) {
        PaymentSwitch x = charged(0);
        x.ticks(20);
        check.same("represented", x.represent(1), 1);
        x.ticks(20);
        check.same("decided", x.decide(1, true), 1);
        PaymentSwitch y = charged(0);
        y.ticks(21);
        check.same("one tick later", y.represent(1), PaymentSwitch.STATE);
        check.same("it is WON", y.payment(1, 8), 3);
        PaymentSwitch z = charged(0);
        z.represent(1);
        z.ticks(21);
        check.same("one tick later, too", z.decide(1, true), PaymentSwitch.STATE);
        check.same("it is LOST", z.payment(1, 8), 4);
    }

    @Sentence("WON: it is locked no more. LOST: it is locked no more, and the balance is less by it again.")
    static void wonAndLost(Check check) {
        for (int i = 0; i < 2; i++) {
            boolean won = i == 1;
            PaymentSwitch x = charged(0);
            x.represent(1);
            x.decide(1, won);
            check.same("locked", x.funds(0, 2), 0);
            check.same("balance", x.funds(0, 0), won ? 9940 : 9900);
            check.same("FREE", x.funds(0, 3), won ? 9940 : 9900);
            check.same("audit", x.audit(), 0);
        }
    }

    // ---- positions

    /** The positions of acquirer, issuer and switch when so much is cleared. */
    private static void cleared(Check check, long amount, int fee, int share, long acquirer, long issuer) {
        PaymentSwitch x = Fixture.single(fee, share, 1000000000000L, 0);
        Fixture.done(x, amount);
        String text = amount + " with fee " + fee + " and share " + share;
        check.same("acquirer, " + text, x.acquired(0, 0), acquirer);
        check.same("issuer, " + text, x.issued(0, 0), issuer);
        check.same("switch, " + text, x.issued(6, 0), -acquirer - issuer);
    }

    @Sentence("c is x * (s + f) / 10000, rounded up, i is x * s / 10000, rounded down: the acquirer's grows by x - c, the "
            + "issuer's by i - x, the switch's by c - i.")
    static void rounding(Check check) {
        cleared(check, 1, 0, 0, 1, -1);
        cleared(check, 1, 1, 0, 0, -1);
        cleared(check, 1, 0, 1, 0, -1);
        cleared(check, 1, 1000, 1000, 0, -1);
        cleared(check, 9999, 1, 0, 9998, -9999);
        cleared(check, 9999, 0, 1, 9998, -9999);
        cleared(check, 10000, 1, 0, 9999, -10000);
        cleared(check, 10000, 0, 1, 9999, -9999);
        cleared(check, 10001, 1, 0, 9999, -10001);
        cleared(check, 10001, 0, 1, 9999, -10000);
        cleared(check, 5000, 1, 1, 4999, -5000);
        cleared(check, 5001, 1, 1, 4999, -5001);
        cleared(check, 19999, 0, 1, 19997, -19998);
        cleared(check, 20000, 0, 1, 19998, -19998);
        cleared(check, 10, 1000, 1000, 8, -9);
        cleared(check, 11, 1000, 1000, 8, -10);
        cleared(check, 9, 1000, 1000, 7, -9);
    }

    @Sentence("c is x * (s + f) / 10000, rounded up, i is x * s / 10000, rounded down")
    static void largeAmounts(Check check) {
        cleared(check, 999999999999L, 1000, 1000, 799999999999L, -900000000000L);
        cleared(check, 999999999999L, 0, 0, 999999999999L, -999999999999L);
        cleared(check, 999999999999L, 1, 0, 999899999999L, -999999999999L);
    }

    @Sentence("Cleared, x:")
    static void roundedEachTime(Check check) {
        PaymentSwitch x = brief();
        Fixture.ask(x, 1, 0, 3);
        for (int i = 0; i < 3; i++) {
            Fixture.present(x, 1, 2 + i, 1, 1);
        }
        // 1 * 150 / 10000, up, is 1 each time.
        check.same("acquirer", x.acquired(0, 0), 0);
        check.same("issuer", x.issued(0, 0), -3);
        check.same("switch", x.issued(6, 0), 3);
    }

    @Sentence("Charged, x: the acquirer's is less by x, the issuer's grows by it; represented: the other way round; "
            + "decided for the card: as charged. Nothing else moves them.")
    static void positionsOfDisputes(Check check) {
        PaymentSwitch x = brief();
        Fixture.done(x, 100);
        long acquirer = x.acquired(0, 0);
        long issuer = x.issued(0, 0);
        long own = x.issued(6, 0);
        x.charge(1, 100);
        check.same("charged", x.acquired(0, 0) - acquirer, -100);
        check.same("charged, issuer", x.issued(0, 0) - issuer, 100);
        x.represent(1);
        check.same("represented", x.acquired(0, 0), acquirer);
        check.same("represented, issuer", x.issued(0, 0), issuer);
        x.decide(1, true);
        check.same("decided for the card", x.acquired(0, 0) - acquirer, -100);
        check.same("decided for the card, issuer", x.issued(0, 0) - issuer, 100);
        check.same("the switch's is not moved", x.issued(6, 0), own);
        check.same("nor another acquirer's", x.acquired(1, 0), 0);
        check.same("nor another issuer's", x.issued(1, 0), 0);
        PaymentSwitch y = charged(0);
        y.represent(1);
        long before = y.acquired(0, 0);
        y.decide(1, false);
        check.same("decided against it", y.acquired(0, 0), before);
    }

    @Sentence("Nothing else moves them.")
    static void whatMovesNothing(Check check) {
        PaymentSwitch x = brief();
        Fixture.ask(x, 1, 0, 100);
        Fixture.ask(x, 2, 0, 100);
        Fixture.undo(x, 1, 3, 50);
        Fixture.undo(x, 1, 4, 0);
        Wire.reversal(420, 1, 5).send(x);
        x.block(0, true);
        x.total(0, 6);
        x.send();
        x.ticks(11);
        x.checkpoint();
        x.crash(0);
        x.recover();
        for (int party = 0; party < 2; party++) {
            check.same("acquirer", x.acquired(party, 0), 0);
            check.same("issuer", x.issued(party, 0), 0);
        }
        check.same("switch", x.issued(6, 0), 0);
    }

    // ---- cutoff

    @Sentence("CUTOFF: what positions are comes to what is SETTLED, and they are 0")
    static void settled(Check check) {
        PaymentSwitch x = brief();
        Fixture.done(x, 1000);
        check.same("nothing is settled", x.acquired(0, 1) + x.issued(0, 1) + x.issued(6, 1), 0);
        x.cutoff();
        check.same("acquirer", x.acquired(0, 1), 985);
        check.same("issuer", x.issued(0, 1), -990);
        check.same("switch", x.issued(6, 1), 5);
        check.same("positions", x.acquired(0, 0) + x.issued(0, 0) + x.issued(6, 0), 0);
        x.cutoff();
        check.same("nothing more comes", x.acquired(0, 1), 985);
        x.charge(1, 1000);
        x.cutoff();
        check.same("what is below 0 comes, too", x.acquired(0, 1), -15);
        check.same("to the issuer", x.issued(0, 1), 10);
        check.same("the batch stays", x.acquired(0, 3), 1000);
        check.same("audit", x.audit(), 0);
    }

    @Sentence("payments that are RELEASED, whose dispute is WON or LOST, or that were DONE more than DISPUTE ticks ago and "
            + "have no dispute, are FORGOTTEN")
    static void doneTicksAgo(Check check) {
        PaymentSwitch x = brief();
        Fixture.done(x, 100);
        check.same("DONE now", x.cutoff(), 0);
        x.ticks(20);
        check.same("DISPUTE ticks ago", x.cutoff(), 0);
        check.same("it is there", x.payment(1, 0), 3);
        x.ticks(1);
        check.same("one more", x.cutoff(), 1);
        check.badArgument("it is FORGOTTEN", () -> x.payment(1, 0));
        check.same("none is left", x.count(0), 0);
        check.same("nothing to forget", x.cutoff(), 0);
    }

    @Sentence("payments that are RELEASED, whose dispute is WON or LOST, or that were DONE more than DISPUTE ticks ago and "
            + "have no dispute, are FORGOTTEN")
    static void heldAndDisputedStay(Check check) {
        PaymentSwitch x = Fixture.opened(30, 1000, 50, 20, 8);
        Fixture.ask(x, 1, 0, 100);
        for (int i = 2; i <= 5; i++) {
            Fixture.ask(x, i, 0, 100);
            Fixture.present(x, i, 10 + i, 100, 0);
        }
        x.ticks(20);
        x.charge(2, 10);
        x.charge(3, 10);
        x.ticks(10);
        x.represent(3);
        check.same("DONE 30 ticks ago, without a dispute", x.cutoff(), 2);
        check.same("HELD, CHARGED, REPRESENTED stay", x.count(0), 3);
        check.same("each is itself", x.payment(1, 8) * 100 + x.payment(2, 8) * 10 + x.payment(3, 8), 12);
        x.ticks(11);
        check.same("WON by time", x.cutoff(), 1);
        x.decide(3, false);
        check.same("LOST", x.cutoff(), 1);
        Fixture.undo(x, 1, 30, 0);
        check.same("RELEASED", x.cutoff(), 1);
        check.same("none is left", x.count(0), 0);
    }

    @Sentence("payments that are RELEASED, whose dispute is WON or LOST")
    static void wonIsForgotten(Check check) {
        PaymentSwitch x = charged(0);
        x.represent(1);
        check.same("REPRESENTED", x.cutoff(), 0);
        x.decide(1, true);
        check.same("WON", x.cutoff(), 1);
        check.badArgument("charge", () -> x.charge(1, 1));
        check.badArgument("represent", () -> x.represent(1));
        check.badArgument("decide", () -> x.decide(1, true));
        check.badArgument("present", () -> x.present(1, 0, 0, 0));
        check.badArgument("undo", () -> x.undo(1, true, 0, 0));
    }

    @Sentence("(answers that are kept, and approvals for 65, stay)")
    static void whatStaysOfTheForgotten(Check check) {
        PaymentSwitch x = Fixture.opened(30, 10, 50, 20, 1);
        Fixture.ask(x, 1, 0, 100);
        Fixture.undo(x, 1, 2, 0);
        check.same("forgotten", x.cutoff(), 1);
        check.same("answers", x.count(1), 2);
        check.same("approvals", x.funds(0, 4), 1);
        check.same("65", Fixture.ask(x, 3, 0, 100), 65);
        check.same("answered again", Fixture.ask(x, 1, 0, 100), 0);
        check.same("the next number", x.count(4), 2);
    }

    @Sentence("CUTOFF: how many payments were forgotten; FULL; CUT. Illegal state.")
    static void cutoffAnswers(Check check) {
        PaymentSwitch x = Fixture.told(4);
        check.badState("in the TABLE", x::cutoff);
        x.open();
        check.same("none", x.cutoff(), 0);
        check.same("it is written", x.count(2), 1);
        Fixture.done(x, 100);
        Wire.reversal(420, 0, 9).send(x);
        check.same("FULL", x.cutoff(), PaymentSwitch.FULL);
        check.same("nothing is settled", x.acquired(0, 1), 0);
        check.same("nothing is forgotten", x.count(0), 2);
        x.checkpoint();
        x.crash(1);
        check.same("CUT", x.cutoff(), PaymentSwitch.CUT);
        check.badState("when DOWN", x::cutoff);
        x.recover();
        check.same("it is settled", x.acquired(0, 1), 98);
        check.same("one is forgotten", x.count(0), 1);
        Fixture.advise(x, 3);
        check.same("three", x.cutoff(), 3);
    }
}
