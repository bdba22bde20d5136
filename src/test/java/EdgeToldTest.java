/** Sentences on edges of what is told: promises 37 to 42. */
public final class EdgeToldTest {
    private static final int[] FAR = {-1, Integer.MIN_VALUE, Integer.MAX_VALUE};

    public static void main(String[] args) throws Exception {
        Sentences.run(EdgeToldTest.class);
    }

    private interface Step {
        void take(PaymentSwitch x);
    }

    /** The same in the TABLE, when OPEN and when DOWN. */
    private static void inAllStates(Step step) {
        PaymentSwitch x = Fixture.told(30);
        step.take(x);
        x.open();
        Fixture.ask(x, 1, 0, 5);
        step.take(x);
        x.crash(0);
        step.take(x);
    }

    // ---- count

    @Sentence("How many there are: what = 0 payments, 1 answers kept, 2 blocks of the journal used, 3 blocks written so far "
            + "in all (recovery takes none back), 4 the NUMBER that the next payment gets, 5 the TIME.")
    static void countsAtFirst(Check check) {
        PaymentSwitch x = new PaymentSwitch(30);
        x.open();
        int[] due = {0, 0, 0, 0, 1, 0};
        for (int what = 0; what < due.length; what++) {
            check.same("count(" + what + ")", x.count(what), due[what]);
        }
    }

    @Sentence("How many there are: what = 0 payments, 1 answers kept, 2 blocks of the journal used, 3 blocks written so far "
            + "in all")
    static void countsAtTheirMost(Check check) {
        PaymentSwitch x = Fixture.opened(30);
        Fixture.advise(x, 60);
        x.checkpoint();
        int written = x.count(3);
        check.same("blocks of the journal", Fixture.fill(x), 30);
        int[] due = {60, 24, 30, written + 30, 61, 30};
        for (int what = 0; what < due.length; what++) {
            check.same("count(" + what + ")", x.count(what), due[what]);
        }
    }

    @Sentence("3 blocks written so far in all (recovery takes none back)")
    static void recoveryTakesNoneBack(Check check) {
        PaymentSwitch x = Fixture.opened(30);
        x.ticks(1);
        x.checkpoint();
        x.crash(1);
        x.checkpoint();
        x.recover();
        check.same("1, 2, and 1 of a snapshot that is none", x.count(3), 4);
        x.crash(1);
        x.ticks(1);
        x.recover();
        check.same("1 more", x.count(3), 5);
        check.same("used", x.count(2), 1);
    }

    @Sentence("5 the TIME. Illegal argument; illegal state.")
    static void wrongCounts(Check check) {
        inAllStates(x -> {
            for (int what : FAR) {
                check.badArgument("count(" + what + ")", () -> x.count(what));
            }
            check.badArgument("count(6)", () -> x.count(6));
        });
        PaymentSwitch x = Fixture.told(30);
        for (int state = 0; state < 2; state++) {
            for (int what = 0; what < 6; what++) {
                int w = what;
                check.badState("count(" + what + ")", () -> x.count(w));
            }
            if (state == 0) {
                x.open();
                x.crash(0);
            }
        }
    }

    // ---- funds

    @Sentence("4 how many payments of it were approved WINDOW ticks ago or less (8 at most are counted)")
    static void approvalsOfAnAccount(Check check) {
        PaymentSwitch x = Fixture.opened(30, 100, 3, 100, 8);
        check.same("none", x.funds(0, 4), 0);
        for (int i = 1; i <= 8; i++) {
            Fixture.ask(x, i, i % 2, 1);
            check.same("approvals", x.funds(0, 4), i);
        }
        check.same("65", Fixture.ask(x, 9, 0, 1), 65);
        check.same("8 at most", x.funds(0, 4), 8);
        check.same("of another account", x.funds(1, 4), 0);
        x.ticks(3);
        check.same("WINDOW ticks ago", x.funds(0, 4), 8);
        x.ticks(1);
        check.same("one more", x.funds(0, 4), 0);
    }

    @Sentence("4 how many payments of it were approved WINDOW ticks ago or less (8 at most are counted)")
    static void moreThanEightInAll(Check check) {
        PaymentSwitch x = Fixture.opened(30, 100, 2, 100, 8);
        for (int i = 1; i <= 12; i++) {
            Fixture.ask(x, i, 0, 1);
            x.ticks(1);
            check.same("behind approval " + i, x.funds(0, 4), Math.min(i, 2));
        }
        x.ticks(1);
        check.same("the last one", x.funds(0, 4), 1);
        x.ticks(1);
        check.same("none", x.funds(0, 4), 0);
    }

    @Sentence("Of an account: what = 0 its balance, 1 what is held of it, 2 what is LOCKED, 3 FREE")
    static void fundsAtTheirEdges(Check check) {
        PaymentSwitch x = Fixture.opened(30);
        long[][] due = {{10000, 0, 0, 10000, 0}, {5000, 0, 0, 6000, 0}, {0, 0, 0, 500, 0}, {-100, 0, 0, -100, 0}};
        for (int account = 0; account < 4; account++) {
            for (int what = 0; what < 5; what++) {
                check.same("funds(" + account + ", " + what + ")", x.funds(account, what), due[account][what]);
            }
        }
        Fixture.ask(x, 1, 3, 500);
        check.same("all is held", x.funds(2, 1) * 1000 + x.funds(2, 3), 500000);
        Fixture.present(x, 1, 2, 500, 0);
        check.same("the balance is below 0", x.funds(2, 0), -500);
        check.same("at its minimum", x.funds(2, 3), 0);
        x.charge(1, 500);
        check.same("all is locked", x.funds(2, 2), 500);
        check.same("and not FREE", x.funds(2, 3), 0);
    }

    @Sentence("(8 at most are counted). Illegal argument; illegal state.")
    static void wrongFunds(Check check) {
        inAllStates(x -> {
            for (int v : FAR) {
                check.badArgument("account " + v, () -> x.funds(v, 0));
                check.badArgument("what " + v, () -> x.funds(0, v));
            }
            check.badArgument("account 4", () -> x.funds(4, 0));
            check.badArgument("account 63", () -> x.funds(63, 0));
            check.badArgument("account 64", () -> x.funds(64, 0));
            check.badArgument("what 5", () -> x.funds(0, 5));
        });
        PaymentSwitch x = Fixture.told(30);
        check.badState("in the TABLE", () -> x.funds(3, 4));
        x.open();
        x.crash(0);
        check.badState("when DOWN", () -> x.funds(3, 4));
    }

    // ---- payment

    private static void tell(Check check, PaymentSwitch x, String text, long... due) {
        for (int what = 0; what < due.length; what++) {
            check.same(text + ", payment(1, " + what + ")", x.payment(1, what), due[what]);
        }
    }

    @Sentence("3 until when it is HELD (0 if it is not), 4 when it was DONE (NONE if it is not), 5 its account (NONE without), "
            + "6 its acquirer, 7 its TRACE")
    static void paymentsAtTheirEdges(Check check) {
        PaymentSwitch x = Fixture.opened(30, 10, 50, 20, 8);
        x.ask(0, 1, 0, 3, 500, 0, 1);
        x.send();
        tell(check, x, "HELD", 1, 500, 0, 10, -1, 2, 1, 0, 0, 0, -1);
        Fixture.present(x, 1, 1, 499, 1);
        tell(check, x, "HELD with 1", 1, 1, 499, 10, -1, 2, 1, 0, 0, 0, -1);
        Fixture.present(x, 1, 2, 1, 1);
        tell(check, x, "DONE in tick 0", 3, 0, 500, 0, 0, 2, 1, 0, 0, 0, -1);
        PaymentSwitch y = Fixture.opened(30, 10, 50, 20, 8);
        Fixture.ask(y, 999999, 0, 1);
        Fixture.undo(y, 1, 1, 0);
        tell(check, y, "RELEASED", 2, 0, 0, 0, -1, 0, 0, 999999, 0, 0, -1);
    }

    @Sentence("8 its dispute: 0 none, 1 CHARGED, 2 REPRESENTED, 3 WON, 4 LOST; 9 the amount of that (0 of 0), 10 until when it "
            + "is so (of 1 and 2, else NONE)")
    static void disputesAtTheirEdges(Check check) {
        for (int i = 0; i < 2; i++) {
            PaymentSwitch x = Fixture.opened(30, 10, 50, 20, 8);
            Fixture.done(x, 9);
            tell(check, x, "none", 3, 0, 9, 0, 0, 0, 0, 1, 0, 0, -1);
            x.charge(1, 9);
            tell(check, x, "CHARGED", 3, 0, 9, 0, 0, 0, 0, 1, 1, 9, 20);
            x.ticks(1);
            x.represent(1);
            tell(check, x, "REPRESENTED", 3, 0, 9, 0, 0, 0, 0, 1, 2, 9, 21);
            x.decide(1, i == 0);
            tell(check, x, "WON or LOST", 3, 0, 9, 0, 0, 0, 0, 1, i == 0 ? 3 : 4, 9, -1);
        }
    }

    @Sentence("Illegal argument: also if there is no such payment; illegal state.")
    static void wrongPayments(Check check) {
        inAllStates(x -> {
            for (int v : FAR) {
                check.badArgument("what " + v, () -> x.payment(1, v));
                check.badArgument("what " + v + " of none", () -> x.payment(2, v));
            }
            check.badArgument("what 11", () -> x.payment(1, 11));
        });
        PaymentSwitch x = Fixture.told(30);
        check.badArgument("in the TABLE", () -> x.payment(1, 0));
        check.badArgument("0 in the TABLE", () -> x.payment(0, 10));
        x.open();
        check.badArgument("before the first", () -> x.payment(1, 0));
        Fixture.ask(x, 1, 0, 1);
        int[] none = {0, -1, 2, 60, 61, Integer.MIN_VALUE, Integer.MAX_VALUE};
        for (int number : none) {
            check.badArgument("payment " + number, () -> x.payment(number, 0));
        }
        check.same("payment 1", x.payment(1, 0), 1);
        x.crash(0);
        for (int number : none) {
            check.badState("payment " + number + " when DOWN", () -> x.payment(number, 0));
        }
        check.badState("payment 1 when DOWN", () -> x.payment(1, 10));
    }

    @Sentence("Illegal argument: also if there is no such payment; illegal state.")
    static void allOfSixty(Check check) {
        PaymentSwitch x = Fixture.opened(30);
        Fixture.advise(x, 60);
        for (int number = 1; number <= 60; number++) {
            check.same("TRACE of " + number, x.payment(number, 7), number);
        }
        check.badArgument("61", () -> x.payment(61, 7));
    }

    // ---- acquired and issued

    @Sentence("Of an acquirer: what = 0 its position, 1 what is settled, 2 its batch's count, 3 its batch's sum. Illegal "
            + "argument; illegal state.")
    static void wrongAcquirers(Check check) {
        inAllStates(x -> {
            for (int v : FAR) {
                check.badArgument("acquirer " + v, () -> x.acquired(v, 0));
                check.badArgument("what " + v, () -> x.acquired(0, v));
            }
            check.badArgument("acquirer 2", () -> x.acquired(2, 0));
            check.badArgument("acquirer 6", () -> x.acquired(6, 0));
            check.badArgument("what 4", () -> x.acquired(0, 4));
        });
        PaymentSwitch x = Fixture.told(30);
        check.badState("in the TABLE", () -> x.acquired(1, 3));
        x.open();
        for (int what = 0; what < 4; what++) {
            check.same("at first", x.acquired(1, what), 0);
        }
        x.crash(0);
        check.badState("when DOWN", () -> x.acquired(1, 3));
    }

    @Sentence("Of an acquirer: what = 0 its position, 1 what is settled, 2 its batch's count, 3 its batch's sum.")
    static void sixAcquirers(Check check) {
        PaymentSwitch x = new PaymentSwitch(30);
        for (int i = 0; i < 6; i++) {
            x.acquirer(0);
        }
        x.issuer(0);
        x.route(0, 4, 1);
        x.account(0, 1000, 0);
        x.card(Fixture.CARD_0, 0);
        x.open();
        x.ask(0, 5, 1, 0, 7, 0, 1);
        x.send();
        Fixture.present(x, 1, 1, 7, 0);
        for (int i = 0; i < 6; i++) {
            check.same("position of " + i, x.acquired(i, 0), i == 5 ? 7 : 0);
            check.same("count of " + i, x.acquired(i, 2), i == 5 ? 1 : 0);
            check.same("sum of " + i, x.acquired(i, 3), i == 5 ? 7 : 0);
        }
        x.cutoff();
        check.same("settled", x.acquired(5, 1), 7);
        check.same("its position", x.acquired(5, 0), 0);
    }

    @Sentence("Of an issuer (or, as number 6, the switch): what = 0 its position, 1 what is settled. Illegal argument; illegal "
            + "state.")
    static void wrongIssuers(Check check) {
        inAllStates(x -> {
            for (int v : FAR) {
                check.badArgument("issuer " + v, () -> x.issued(v, 0));
                check.badArgument("what " + v, () -> x.issued(0, v));
                check.badArgument("what " + v + " of the switch", () -> x.issued(6, v));
            }
            check.badArgument("issuer 3", () -> x.issued(3, 0));
            check.badArgument("issuer 5", () -> x.issued(5, 0));
            check.badArgument("issuer 7", () -> x.issued(7, 0));
            check.badArgument("what 2", () -> x.issued(0, 2));
            check.badArgument("what 2 of the switch", () -> x.issued(6, 2));
        });
        PaymentSwitch x = Fixture.told(30);
        check.badState("in the TABLE", () -> x.issued(2, 1));
        check.badState("the switch in the TABLE", () -> x.issued(6, 1));
        x.open();
        check.same("at first", x.issued(2, 0) + x.issued(2, 1) + x.issued(6, 0) + x.issued(6, 1), 0);
        x.crash(0);
        check.badState("when DOWN", () -> x.issued(2, 1));
        check.badState("the switch when DOWN", () -> x.issued(6, 1));
    }

    @Sentence("Of an issuer (or, as number 6, the switch)")
    static void sixIssuersAndTheSwitch(Check check) {
        PaymentSwitch x = new PaymentSwitch(30);
        x.acquirer(1000);
        for (int i = 0; i < 6; i++) {
            x.issuer(0);
        }
        x.route(5, 4, 1);
        x.account(5, 1000, 0);
        x.card(Fixture.CARD_0, 0);
        x.open();
        Fixture.done(x, 10);
        for (int i = 0; i < 6; i++) {
            check.same("position of " + i, x.issued(i, 0), i == 5 ? -10 : 0);
        }
        check.same("position of the switch", x.issued(6, 0), 1);
        x.cutoff();
        check.same("settled", x.issued(5, 1), -10);
        check.same("settled of the switch", x.issued(6, 1), 1);
        check.same("positions", x.issued(5, 0) + x.issued(6, 0), 0);
        PaymentSwitch y = new PaymentSwitch(4);
        y.open();
        check.same("the switch without issuers", y.issued(6, 0), 0);
    }

    @Sentence("POSITIONS of acquirers, issuers and the switch, all 0 at first.")
    static void positionsAtFirst(Check check) {
        PaymentSwitch x = Fixture.opened(30);
        for (int what = 0; what < 2; what++) {
            check.same("acquirers", x.acquired(0, what) + x.acquired(1, what), 0);
            check.same("issuers", x.issued(0, what) + x.issued(1, what) + x.issued(2, what), 0);
            check.same("the switch", x.issued(6, what), 0);
        }
    }

    // ---- audit

    @Sentence("an account whose FREE is below 0, and less than it was when the account was told")
    static void freeBelowZeroAsTold(Check check) {
        PaymentSwitch x = new PaymentSwitch(30);
        x.issuer(0);
        x.account(0, -1000000000000L, 0);
        x.account(0, -1, 0);
        x.account(0, 0, 0);
        x.open();
        check.same("told so", x.audit(), 0);
    }

    @Sentence("an account whose held or locked amounts are not those of its payments; a payment of which less than 0 is held")
    static void auditOfAFullObject(Check check) {
        PaymentSwitch x = new PaymentSwitch(30);
        x.acquirer(33);
        x.acquirer(33);
        x.issuer(77);
        x.route(0, 4, 1);
        for (int i = 0; i < 64; i++) {
            x.account(0, 1000, 0);
        }
        x.card(Fixture.CARD_0, 63);
        x.open();
        Fixture.advise(x, 57);
        x.checkpoint();
        Fixture.ask(x, 1, 0, 100);
        Fixture.present(x, 58, 2, 70, 1);
        Fixture.ask(x, 3, 0, 100);
        Fixture.present(x, 59, 4, 100, 0);
        x.charge(59, 40);
        Fixture.ask(x, 5, 0, 100);
        check.same("60 payments", x.count(0), 60);
        check.same("audit", x.audit(), 0);
        x.cutoff();
        check.same("audit behind a cutoff", x.audit(), 0);
    }

    @Sentence("positions, or what is settled, whose sum is not 0")
    static void sumsAreZero(Check check) {
        PaymentSwitch x = Fixture.opened(30);
        for (int i = 1; i <= 5; i++) {
            x.ask(0, i % 2, i, i % 4, 100 + i, 0, i);
            x.send();
            Fixture.present(x, i, i, 90 + i, 0);
        }
        x.charge(1, 7);
        x.charge(2, 9);
        x.represent(2);
        for (int what = 0; what < 2; what++) {
            long sum = x.acquired(0, what) + x.acquired(1, what);
            for (int issuer = 0; issuer < 3; issuer++) {
                sum += x.issued(issuer, what);
            }
            check.same("sum", sum + x.issued(6, what), 0);
            check.no("each is 0", x.acquired(0, what) == 0);
            check.same("audit", x.audit(), 0);
            x.cutoff();
        }
    }

    @Sentence("An object is used for at most 512 calls after it has been made")
    static void callFiveHundredAndTwelve(Check check) {
        PaymentSwitch x = new PaymentSwitch(4);
        x.acquirer(0);
        x.issuer(0);
        x.route(0, 4, 1);
        x.account(0, 1000, 0);
        x.card(Fixture.CARD_0, 0);
        x.open();
        for (int i = 0; i < 252; i++) {
            check.same("block", x.block(0, i % 2 == 0), 1);
            check.same("snapshot", x.checkpoint(), 2);
        }
        check.same("call 511", x.count(3), 252 * 3);
        check.same("call 512", x.audit(), 0);
    }

    @Sentence("How many of these are so")
    static void auditOfNothing(Check check) {
        PaymentSwitch x = new PaymentSwitch(4);
        x.open();
        check.same("nothing", x.audit(), 0);
    }

    @Sentence("a payment of which less than 0 is held. Illegal state.")
    static void statesOfAudit(Check check) {
        PaymentSwitch x = new PaymentSwitch(4);
        check.badState("in the TABLE", x::audit);
        x.open();
        check.same("when OPEN", x.audit(), 0);
        x.crash(0);
        check.badState("when DOWN", x::audit);
        x.recover();
        check.same("behind recovery", x.audit(), 0);
    }
}
