/** Promises 24 to 26 and part 3: what is answered. */
public final class SendTest {
    private static final Check CHECK = new Check();
    private static final String REF_1 = Fixture.hexOf("000000000001");
    private static final String TERMINAL = Fixture.hexOf("00000000");

    public static void main(String[] args) {
        states();
        answersHaveTheirFields();
        lastAnswer();
        network();
        noSuchAcquirer();
        repeated();
        repeatedByNumber();
        repeatedAcrossKinds();
        twentyFourAnswers();
        journalIsFull();
        refusedRequests();
        routesOfRequests();
        rowsThatBeginWithZero();
        manyApprovals();
        amounts();
        presentments();
        presentmentsRefused();
        reversals();
        reversalsRefused();
        advices();
        leastAmounts();
        totals();
        CHECK.end();
    }

    private static void states() {
        PaymentSwitch x = Fixture.told(4);
        x.ask(0, 0, 1, 0, 1, 0, 1);
        CHECK.badState("send in the TABLE", x::send);
        x.open();
        CHECK.same("send when OPEN", x.send(), 0);
        int size = x.size();
        x.crash(0);
        CHECK.badState("send when DOWN", x::send);
        CHECK.same("the last answer stays when DOWN", x.size(), size);
        CHECK.same("byteAt when DOWN", x.byteAt(1), 0x10);
        x.recover();
        CHECK.same("the last answer stays behind recovery", x.size(), size);
        CHECK.same("the tape stays, and is answered again", x.send(), 0);
        CHECK.same("one payment", x.count(0), 1);
    }

    private static void answersHaveTheirFields() {
        PaymentSwitch x = Fixture.opened(30);
        x.ask(0, 0, 1, 0, 3000, 0, 1);
        x.send();
        CHECK.text("0", Fixture.answerOf(x), "0110 502000010E808000 12 410000000019 000000003000 000001 01 00"
                + REF_1 + Fixture.hexOf("000001") + Fixture.hexOf("00") + TERMINAL + "0978");
        x.ask(1, 0, 2, 0, 9000, 1, 2);
        CHECK.same("some of it", x.send(), 10);
        CHECK.text("10", Fixture.answerOf(x), "0110 502000010E808000 12 410000000019 000000007000 000002 01 00"
                + Fixture.hexOf("000000000002") + Fixture.hexOf("000002") + Fixture.hexOf("10") + TERMINAL + "0978");
        x.ask(0, 0, 3, 0, 9000, 1, 3);
        CHECK.same("nothing of it", x.send(), 51);
        CHECK.text("51", Fixture.answerOf(x), "0110 502000010A808000 12 410000000019 000000009000 000003 01 00"
                + Fixture.hexOf("000000000003") + Fixture.hexOf("51") + TERMINAL + "0978");
        x.present(1, 4, 2000, 1);
        x.send();
        CHECK.text("220", Fixture.answerOf(x), "0230 502000010A008000 12 410000000019 000000002000 000004 01 00"
                + REF_1 + Fixture.hexOf("00") + "0978");
        x.undo(2, true, 5, 6000);
        x.send();
        CHECK.text("420", Fixture.answerOf(x), "0430 402000010A000000 12 410000000019 000005 01 00"
                + Fixture.hexOf("000000000002") + Fixture.hexOf("00"));
        x.undo(2, false, 6, 6000);
        x.send();
        CHECK.text("400", Fixture.answerOf(x), "0410 402000010A000000 12 410000000019 000006 01 00"
                + Fixture.hexOf("000000000002") + Fixture.hexOf("00"));
        x.total(0, 7);
        x.send();
        CHECK.text("500", Fixture.answerOf(x), "0510 8020000102000000 0040040000000000 000007 01 00"
                + Fixture.hexOf("00") + "0000000001 0000000000002000");
        Fixture.tape(x, "0800 8020000000000000 0400000000000000 000008 0301");
        x.send();
        CHECK.text("800", Fixture.answerOf(x), "0810 8020000002000000 0400000000000000 000008"
                + Fixture.hexOf("00") + "0301");
    }

    private static void lastAnswer() {
        PaymentSwitch x = Fixture.opened(30);
        CHECK.same("none was sent", x.size(), 0);
        CHECK.badArgument("byteAt(0) of none", () -> x.byteAt(0));
        x.ask(0, 0, 1, 0, 3000, 0, 1);
        x.send();
        CHECK.same("size", x.size(), 58);
        CHECK.badArgument("byteAt(-1)", () -> x.byteAt(-1));
        CHECK.badArgument("byteAt(58)", () -> x.byteAt(58));
        CHECK.same("byteAt(57)", x.byteAt(57), 0x78);
        x.trim(1);
        CHECK.same("FAULT", x.send(), PaymentSwitch.FAULT);
        CHECK.same("a message with a fault has no answer", x.size(), 0);
        CHECK.badArgument("byteAt(0) of FAULT", () -> x.byteAt(0));
        CHECK.same("a message with a fault is not kept", x.count(1), 1);
        x.ask(0, 0, 2, 0, 1, 0, 2);
        x.crash(1);
        CHECK.same("CUT", x.send(), PaymentSwitch.CUT);
        CHECK.same("a message that is cut has no answer", x.size(), 0);
        x.recover();
        CHECK.same("nor has it one behind recovery", x.size(), 0);
        CHECK.same("until it is sent again", x.send(), 0);
        CHECK.same("then it has", x.size(), 58);
    }

    private static void network() {
        PaymentSwitch x = Fixture.opened(4);
        x.message(800);
        x.digits(11, 1);
        CHECK.same("800 without NETWORK", Fixture.sent(x), 30);
        x.digits(70, 1);
        CHECK.same("800", Fixture.sent(x), 0);
        CHECK.same("800 again", Fixture.sent(x), 0);
        x.digits(70, 2);
        CHECK.same("800 with the same TRACE", Fixture.sent(x), 0);
        CHECK.same("800 is not kept", x.count(1), 0);
        CHECK.same("800 is not written", x.count(3), 0);
        x.omit(11);
        CHECK.same("800 without TRACE", Fixture.sent(x), 30);
        x.digits(11, 1);
        x.digits(32, 0);
        CHECK.same("800 with ACQUIRER", Fixture.sent(x), 30);
    }

    private static void noSuchAcquirer() {
        PaymentSwitch x = Fixture.opened(4);
        x.ask(0, 2, 1, 0, 1, 0, 1);
        CHECK.same("acquirer 2", x.send(), 3);
        x.digits(32, 99999999999L);
        CHECK.same("acquirer 99999999999", Fixture.sent(x), 3);
        x.digits(32, 4294967296L);
        CHECK.same("acquirer 2^32", Fixture.sent(x), 3);
        CHECK.same("nothing is kept", x.count(1) + x.count(3), 0);
        x.digits(32, 1);
        CHECK.same("acquirer 1", Fixture.sent(x), 0);
        CHECK.same("of the payment", x.payment(1, 6), 1);
    }

    private static void repeated() {
        PaymentSwitch x = Fixture.opened(4);
        x.ask(0, 0, 1, 0, 3000, 0, 1);
        x.send();
        String first = Fixture.answerOf(x);
        x.message(800);
        x.compose();
        x.send();
        x.ask(1, 0, 1, 0, 3000, 0, 1);
        CHECK.same("again as 101", x.send(), 0);
        CHECK.text("the same answer", Fixture.answerOf(x), first);
        x.ask(0, 0, 1, 0, 3000, 0, 1);
        CHECK.same("again as 100", x.send(), 0);
        CHECK.same("held once", x.funds(0, 1), 3000);
        CHECK.same("written once", x.count(3), 1);
        CHECK.same("kept once", x.count(1), 1);
        x.ask(0, 0, 1, 0, 3000, 0, 2);
        CHECK.same("another message", x.send(), 94);
        CHECK.text("its answer", Fixture.answerOf(x), "0110 502000010A808000 12 410000000019 000000003000 000001 01 00"
                + Fixture.hexOf("000000000002") + Fixture.hexOf("94") + TERMINAL + "0978");
        CHECK.same("94 is not written", x.count(3), 1);
        x.ask(0, 1, 1, 0, 3000, 0, 1);
        CHECK.same("of another acquirer", x.send(), 0);
        x.ask(0, 0, 5, 0, 99999, 0, 9);
        CHECK.same("refused", x.send(), 51);
        x.ticks(1);
        CHECK.same("refused again, the journal being full", x.send(), 51);
    }

    private static void repeatedByNumber() {
        PaymentSwitch x = Fixture.opened(30);
        String rest = Fixture.hexOf("000000000009") + TERMINAL + "0978";
        Fixture.tape(x, "0100 7020000108808000 12 410000000019 000000 000000000005 000001 01 00" + rest);
        CHECK.same("acquirer 0", x.send(), 0);
        Fixture.tape(x, "0100 7020000108808000 12 410000000019 000000 000000000005 000001 02 00" + rest);
        CHECK.same("acquirer 00 is the same one, with other bytes", x.send(), 94);
        Fixture.tape(x, "0100 7020000108808000 12 410000000019 000000 000000000005 000002 03 0000" + rest);
        CHECK.same("its key is the same, too", x.send(), 94);
        CHECK.same("which is written", x.count(3), 2);
    }

    private static void repeatedAcrossKinds() {
        PaymentSwitch x = Fixture.opened(30);
        Fixture.ask(x, 1, 0, 3000);
        CHECK.same("trace 1 of 220", Fixture.present(x, 1, 1, 10, 1), 0);
        CHECK.same("trace 1 of 400", Fixture.undo(x, 1, 1, 0), 12);
        x.undo(1, true, 1, 0);
        CHECK.same("trace 1 of 420 is that of 400", x.send(), 94);
        x.total(0, 1);
        CHECK.same("trace 1 of 500", x.send(), 0);
        x.spoil(1, 1);
        CHECK.same("501 of the same", x.send(), 0);
        x.total(0, 1);
        CHECK.same("500 of another batch", x.send(), 94);
        x.present(1, 1, 10, 1);
        x.spoil(1, 1);
        CHECK.same("221 of the same", x.send(), 0);
        CHECK.same("cleared once", x.payment(1, 2), 10);
        x.undo(1, false, 1, 0);
        x.spoil(1, 1);
        CHECK.same("401 of the same", x.send(), 12);
        CHECK.same("four are kept", x.count(1), 4);
        CHECK.same("four are written", x.count(3), 4);
    }

    private static void twentyFourAnswers() {
        PaymentSwitch x = Fixture.opened(30);
        for (int i = 1; i <= 24; i++) {
            x.ask(0, 0, i, 0, 0, 0, i);
            CHECK.same("13", x.send(), 13);
            CHECK.same("kept", x.count(1), i);
        }
        x.ask(0, 0, 1, 0, 0, 0, 1);
        CHECK.same("the first one again", x.send(), 13);
        CHECK.same("is not written", x.count(3), 24);
        x.ask(0, 0, 25, 0, 0, 0, 25);
        x.send();
        CHECK.same("24 are kept", x.count(1), 24);
        x.ask(0, 0, 2, 0, 5, 0, 2);
        CHECK.same("the second one is kept", x.send(), 94);
        x.ask(0, 0, 1, 0, 5, 0, 1);
        CHECK.same("the first one went", x.send(), 0);
        CHECK.same("it is written", x.count(3), 26);
        x.ask(0, 0, 2, 0, 5, 0, 2);
        CHECK.same("then the second one went", x.send(), 0);
        x.ask(0, 0, 4, 0, 5, 0, 4);
        CHECK.same("but not the fourth", x.send(), 94);
        x.ask(0, 0, 25, 0, 0, 0, 25);
        CHECK.same("nor a late one", x.send(), 13);
    }

    private static void journalIsFull() {
        PaymentSwitch x = Fixture.opened(4);
        Fixture.ask(x, 1, 0, 100);
        x.ticks(1);
        x.ticks(1);
        x.ticks(1);
        CHECK.same("100", Fixture.ask(x, 2, 0, 100), 96);
        CHECK.text("its answer", Fixture.answerOf(x), "0110 502000010A808000 12 410000000019 000000000100 000002 01 00"
                + Fixture.hexOf("000000000002") + Fixture.hexOf("96") + TERMINAL + "0978");
        CHECK.same("220", Fixture.present(x, 1, 3, 100, 0), 96);
        CHECK.same("400", Fixture.undo(x, 1, 4, 0), 96);
        x.total(0, 5);
        CHECK.same("500", x.send(), 96);
        CHECK.text("its answer has no COUNT", Fixture.answerOf(x), "0510 0020000102000000 000005 01 00"
                + Fixture.hexOf("96"));
        CHECK.same("nothing changed", x.payment(1, 1), 100);
        CHECK.same("nothing is kept", x.count(1), 1);
        CHECK.same("a repeated one is answered", Fixture.ask(x, 1, 0, 100), 0);
        CHECK.same("another one with its trace, too", Fixture.ask(x, 1, 0, 101), 94);
        x.ask(0, 2, 1, 0, 1, 0, 1);
        CHECK.same("no such acquirer", x.send(), 3);
        x.checkpoint();
        CHECK.same("behind a snapshot", Fixture.ask(x, 2, 0, 100), 0);
    }

    private static void refusedRequests() {
        PaymentSwitch x = Fixture.opened(30);
        x.block(1, true);
        Fixture.ask(x, 1, 0, 100);
        x.ask(0, 0, 2, 0, 0, 0, 1);
        x.digits(49, 840);
        CHECK.same("94 is ahead of 12", Fixture.sent(x), 94);
        x.ask(0, 0, 3, 0, 0, 0, 3);
        x.digits(49, 840);
        CHECK.same("12 is ahead of 13", Fixture.sent(x), 12);
        x.ask(0, 0, 4, 0, 0, 0, 4);
        x.digits(2, 600000000015L);
        CHECK.same("13 is ahead of 92", Fixture.sent(x), 13);
        x.ask(0, 0, 5, 0, 1, 0, 5);
        x.digits(2, 600000000016L);
        CHECK.same("92 is ahead of 14", Fixture.sent(x), 92);
        x.ask(0, 0, 6, 0, 1, 0, 6);
        x.digits(2, 410000000018L);
        CHECK.same("not GOOD", Fixture.sent(x), 14);
        x.digits(11, 7);
        x.digits(2, 41000000000000004L);
        CHECK.same("no such card", Fixture.sent(x), 14);
        x.ask(0, 0, 8, 1, 100000, 0, 8);
        CHECK.same("62 is ahead of 51", x.send(), 62);
        CHECK.same("no payment came", x.count(0), 1);
        CHECK.same("no number went", x.count(4), 2);
        x.ask(0, 1, 9, 0, 1, 0, 1);
        CHECK.same("a key is of an acquirer", x.send(), 0);
        x.block(1, false);
        x.ask(0, 0, 10, 1, 5, 0, 8);
        CHECK.same("blocked no more", x.send(), 0);
    }

    private static void routesOfRequests() {
        PaymentSwitch x = Fixture.opened(30);
        x.ask(0, 0, 1, 0, 1, 0, 1);
        x.digits(2, 4);
        CHECK.same("less digits than a route", Fixture.sent(x), 92);
        x.digits(2, 41);
        x.digits(11, 2);
        CHECK.same("as many", Fixture.sent(x), 14);
        String rest = "000000 000000000005 000003 01 00" + Fixture.hexOf("000000000009") + TERMINAL + "0978";
        Fixture.tape(x, "0100 7020000108808000 13 00410000000019" + rest);
        CHECK.same("a 0 in front makes another card", x.send(), 92);
        rest = rest.replace("000003", "000004");
        Fixture.tape(x, "0100 7020000108808000 19 0" + "4100000000000000000" + rest);
        CHECK.same("19 digits", x.send(), 14);
    }

    private static void rowsThatBeginWithZero() {
        PaymentSwitch x = Fixture.told(30);
        x.route(0, 0, 1);
        x.open();
        String front = "0100 7020000108808000";
        String rest = "01 00" + Fixture.hexOf("000000000009") + TERMINAL + "0978";
        Fixture.tape(x, front + "13 00410000000019 000000 000000000005 000001" + rest);
        CHECK.same("a 0 in front has a route, but is no card", x.send(), 14);
        Fixture.tape(x, front + "01 00 000000 000000000005 000002" + rest);
        CHECK.same("a 0 alone, too", x.send(), 14);
        Fixture.tape(x, front + "12 410000000019 000000 000000000005 000003" + rest);
        CHECK.same("the card itself", x.send(), 0);
        Fixture.tape(x, "0220 702000010C008000 13 00410000000019 000000 000000000005 000004 01 00"
                + Fixture.hexOf("000000000009") + Fixture.hexOf("000001") + "0978");
        CHECK.same("a 0 in front makes another card for 220", x.send(), 12);
    }

    private static void manyApprovals() {
        PaymentSwitch x = Fixture.opened(30, 5, 10, 5, 3);
        Fixture.ask(x, 1, 0, 1);
        x.ticks(4);
        x.ask(0, 0, 2, 1, 99999, 1, 2);
        CHECK.same("10 counts", x.send(), 10);
        Fixture.undo(x, 2, 3, 0);
        CHECK.same("51 counts not", Fixture.ask(x, 4, 0, 99999), 51);
        CHECK.same("third", Fixture.ask(x, 5, 1, 1), 0);
        CHECK.same("counted", x.funds(0, 4), 3);
        CHECK.same("65, whatever became of them", Fixture.ask(x, 6, 0, 1), 65);
        CHECK.same("65 is of the account", Fixture.ask(x, 7, 2, 1), 0);
        x.ticks(1);
        CHECK.same("forgotten", x.cutoff(), 2);
        x.crash(0);
        x.recover();
        CHECK.same("65, forgotten and behind recovery", Fixture.ask(x, 8, 0, 99999), 65);
        x.ticks(5);
        CHECK.same("WINDOW ticks ago", Fixture.ask(x, 9, 0, 1), 65);
        x.ticks(1);
        CHECK.same("more", x.funds(0, 4), 2);
        CHECK.same("approved again", Fixture.ask(x, 10, 0, 1), 0);
    }

    private static void amounts() {
        PaymentSwitch x = Fixture.opened(30);
        CHECK.same("above FREE", Fixture.ask(x, 1, 2, 6001), 51);
        CHECK.same("all that is FREE", Fixture.ask(x, 2, 2, 6000), 0);
        x.ask(0, 0, 3, 2, 1, 1, 3);
        CHECK.same("nothing is FREE", x.send(), 51);
        x.ask(0, 0, 4, 3, 501, 2, 4);
        CHECK.same("MODE 2", x.send(), 51);
        x.ask(0, 0, 5, 3, 501, 1, 5);
        CHECK.same("MODE 1", x.send(), 10);
        CHECK.same("so much", x.payment(2, 1), 500);
        x.ask(0, 0, 6, 4, 1, 1, 6);
        CHECK.same("FREE is below 0", x.send(), 51);
        CHECK.same("held of account 1", x.funds(1, 1), 6000);
        CHECK.same("balance of account 1", x.funds(1, 0), 5000);
        x.ask(0, 0, 7, 0, 100, 1, 7);
        CHECK.same("MODE 1 with enough", x.send(), 0);
    }

    private static void presentments() {
        PaymentSwitch x = Fixture.opened(30);
        x.ticks(3);
        x.ask(0, 1, 1, 2, 1000, 0, 7);
        x.send();
        CHECK.same("some of it", Fixture.present(x, 1, 2, 333, 1), 0);
        CHECK.same("still HELD", x.payment(1, 0), 1);
        CHECK.same("held", x.payment(1, 1), 667);
        CHECK.same("cleared", x.payment(1, 2), 333);
        CHECK.same("held until", x.payment(1, 3), 103);
        CHECK.same("held of the account", x.funds(1, 1), 667);
        CHECK.same("balance", x.funds(1, 0), 4667);
        CHECK.same("FREE", x.funds(1, 3), 5000);
        // 333 * 150 / 10000 is 4.995, up 5; 333 * 30 / 10000 is 0.999, down 0.
        CHECK.same("acquirer", x.acquired(1, 0), 328);
        CHECK.same("issuer", x.issued(1, 0), -333);
        CHECK.same("switch", x.issued(6, 0), 5);
        x.ticks(2);
        CHECK.same("all the rest with MODE 1", Fixture.present(x, 1, 3, 667, 1), 0);
        CHECK.same("DONE", x.payment(1, 0), 3);
        CHECK.same("then", x.payment(1, 4), 5);
        CHECK.same("batch", x.acquired(1, 2) * 10000 + x.acquired(1, 3), 21000);
        CHECK.same("of acquirer 1", x.acquired(0, 2), 0);
        x.ask(0, 0, 4, 0, 1000, 0, 4);
        x.send();
        CHECK.same("some of it with MODE 2", Fixture.present(x, 2, 5, 400, 2), 0);
        CHECK.same("is all", x.payment(2, 0), 3);
        CHECK.same("held no more", x.funds(0, 1), 0);
        CHECK.same("nothing is held", x.payment(2, 1), 0);
        // 400 * 150 / 10000 is 6, 400 * 100 / 10000 is 4: whole numbers are not rounded.
        CHECK.same("acquirer 0", x.acquired(0, 0), 394);
        CHECK.same("issuer 0", x.issued(0, 0), -396);
    }

    private static void presentmentsRefused() {
        PaymentSwitch x = Fixture.opened(30);
        Fixture.ask(x, 1, 0, 100);
        x.present(1, 2, 50, 1);
        x.digits(32, 1);
        CHECK.same("another acquirer", Fixture.sent(x), 25);
        x.present(1, 3, 50, 1);
        x.letters(37, 5, 0);
        CHECK.same("another reference", Fixture.sent(x), 25);
        x.present(1, 4, 0, 1);
        x.digits(2, Fixture.CARD_1);
        CHECK.same("another CARD, ahead of 13", Fixture.sent(x), 12);
        x.present(1, 15, 50, 1);
        x.digits(2, Fixture.CARD_0 * 10);
        CHECK.same("a CARD that goes on", Fixture.sent(x), 12);
        x.present(1, 16, 50, 1);
        x.digits(2, Fixture.CARD_0 / 10);
        CHECK.same("a CARD that ends before", Fixture.sent(x), 12);
        x.present(1, 5, 50, 1);
        x.approval(2);
        CHECK.same("another APPROVAL", Fixture.sent(x), 12);
        CHECK.same("AMOUNT 0", Fixture.present(x, 1, 6, 0, 1), 13);
        CHECK.same("AMOUNT above", Fixture.present(x, 1, 7, 101, 1), 13);
        x.present(1, 8, 10, 1);
        x.digits(49, 840);
        CHECK.same("CURRENCY is not asked", Fixture.sent(x), 0);
        CHECK.same("what is held became less", Fixture.present(x, 1, 9, 91, 1), 13);
        CHECK.same("and is cleared", Fixture.present(x, 1, 10, 90, 1), 0);
        CHECK.same("DONE", Fixture.present(x, 1, 11, 1, 1), 12);
        Fixture.ask(x, 12, 0, 100);
        Fixture.undo(x, 2, 13, 0);
        CHECK.same("RELEASED", Fixture.present(x, 2, 14, 1, 1), 12);
        CHECK.same("cleared", x.payment(1, 2), 100);
    }

    private static void reversals() {
        PaymentSwitch x = Fixture.opened(30);
        Fixture.ask(x, 1, 0, 1000);
        CHECK.same("so much is held", Fixture.undo(x, 1, 2, 999), 0);
        CHECK.same("held", x.payment(1, 1), 999);
        CHECK.same("held of the account", x.funds(0, 1), 999);
        CHECK.same("HELD", x.payment(1, 0), 1);
        CHECK.same("until", x.payment(1, 3), 100);
        CHECK.same("as much as is held", Fixture.undo(x, 1, 3, 999), 0);
        CHECK.same("is RELEASED", x.payment(1, 0), 2);
        CHECK.same("nothing is held", x.payment(1, 1), 0);
        CHECK.same("until nothing", x.payment(1, 3), 0);
        CHECK.same("nothing is held of the account", x.funds(0, 1), 0);
        CHECK.same("RELEASED already", Fixture.undo(x, 1, 4, 1), 0);
        CHECK.same("still nothing", x.payment(1, 1), 0);
        Fixture.ask(x, 5, 0, 1000);
        x.undo(2, true, 6, 0);
        x.digits(95, 0);
        CHECK.same("REPLACEMENT 0", Fixture.sent(x), 0);
        CHECK.same("RELEASED by advice", x.payment(2, 0), 2);
        Fixture.ask(x, 7, 0, 1000);
        x.undo(3, true, 8, 1001);
        x.spoil(1, 1);
        CHECK.same("421, more than is held", x.send(), 0);
        CHECK.same("RELEASED, too", x.payment(3, 0), 2);
        CHECK.same("positions are not moved", x.acquired(0, 0), 0);
    }

    private static void reversalsRefused() {
        PaymentSwitch x = Fixture.opened(30);
        Fixture.ask(x, 1, 0, 1000);
        x.undo(1, false, 2, 0);
        x.letters(37, 9, 0);
        CHECK.same("no such key", Fixture.sent(x), 25);
        CHECK.same("400 makes no payment", x.count(0), 1);
        x.undo(1, false, 3, 0);
        x.digits(2, Fixture.CARD_1);
        CHECK.same("another CARD", Fixture.sent(x), 12);
        x.undo(1, false, 4, 0);
        x.original(100, 2, 0);
        CHECK.same("another ORIGINAL", Fixture.sent(x), 12);
        Fixture.present(x, 1, 5, 1, 1);
        CHECK.same("HELD, something is cleared", Fixture.undo(x, 1, 6, 0), 12);
        Fixture.present(x, 1, 7, 1, 0);
        CHECK.same("DONE", Fixture.undo(x, 1, 8, 0), 12);
        Fixture.ask(x, 9, 0, 1000);
        Fixture.undo(x, 2, 10, 0);
        x.undo(2, false, 11, 0);
        x.original(1, 1, 1);
        CHECK.same("ORIGINAL of what is RELEASED is not asked", Fixture.sent(x), 0);
        x.undo(2, false, 12, 0);
        x.digits(2, Fixture.CARD_1);
        CHECK.same("its CARD is", Fixture.sent(x), 12);
    }

    private static void advices() {
        PaymentSwitch x = Fixture.opened(30);
        x.message(421);
        x.digits(2, 410000000018L);
        x.digits(11, 5);
        x.digits(32, 1);
        x.letters(37, 1, 0);
        x.original(0, 0, 0);
        CHECK.same("421 of what is not known", Fixture.sent(x), 25);
        CHECK.same("a payment comes", x.count(0), 1);
        CHECK.same("RELEASED", x.payment(1, 0), 2);
        CHECK.same("of no account", x.payment(1, 5), -1);
        CHECK.same("of acquirer 1", x.payment(1, 6), 1);
        CHECK.same("with its TRACE", x.payment(1, 7), 5);
        CHECK.same("until nothing", x.payment(1, 3), 0);
        CHECK.same("never DONE", x.payment(1, 4), -1);
        x.ask(0, 1, 6, 0, 5, 0, 1);
        x.letters(37, 1, 0);
        CHECK.same("its key is used", Fixture.sent(x), 94);
        x.undo(1, false, 7, 0);
        CHECK.same("undone already", x.send(), 0);
        CHECK.same("the next number", x.count(4), 2);
        CHECK.same("audit", x.audit(), 0);
        x.cutoff();
        x.ask(0, 1, 8, 0, 5, 0, 1);
        x.letters(37, 1, 0);
        CHECK.same("a forgotten key is free", Fixture.sent(x), 0);
        CHECK.same("with the next number", x.payment(2, 0), 1);
    }

    private static void leastAmounts() {
        PaymentSwitch x = Fixture.single(1, 0, 2, 0);
        CHECK.same("one of two", Fixture.ask(x, 1, 0, 1), 0);
        x.ask(0, 0, 2, 0, 2, 1, 2);
        CHECK.same("the other one", x.send(), 10);
        Fixture.present(x, 1, 3, 1, 0);
        // 1 * 1 / 10000, up, is all of it.
        CHECK.same("acquirer", x.acquired(0, 0), 0);
        CHECK.same("issuer", x.issued(0, 0), -1);
        CHECK.same("switch", x.issued(6, 0), 1);
        PaymentSwitch y = Fixture.opened(30);
        Fixture.ask(y, 1, 0, 2);
        CHECK.same("one is left", Fixture.undo(y, 1, 2, 1), 0);
        CHECK.same("it is held", y.payment(1, 1), 1);
    }

    private static void totals() {
        PaymentSwitch x = Fixture.opened(30);
        Fixture.done(x, 500);
        x.total(0, 3);
        x.digits(74, 2);
        CHECK.same("another COUNT", Fixture.sent(x), 95);
        CHECK.text("those of the batch are answered", Fixture.answerOf(x), "0510 8020000102000000 0040040000000000"
                + "000003 01 00" + Fixture.hexOf("95") + "0000000001 0000000000000500");
        x.total(0, 4);
        x.digits(86, 501);
        CHECK.same("another SUM", Fixture.sent(x), 95);
        CHECK.same("the batch stays", x.acquired(0, 2), 1);
        x.total(0, 5);
        x.spoil(1, 1);
        CHECK.same("501", x.send(), 0);
        CHECK.text("the batch as it was", Fixture.answerOf(x), "0510 8020000102000000 0040040000000000"
                + "000005 01 00" + Fixture.hexOf("00") + "0000000001 0000000000000500");
        CHECK.same("is empty", x.acquired(0, 2) + x.acquired(0, 3), 0);
        CHECK.same("the position is not", x.acquired(0, 0), 492);
    }
}
