/** Sentences on edges of requests, presentments, reversals and totals: part 3 from the written messages on. */
public final class EdgePaymentTest {
    private static final long MOST_AMOUNT = 999999999999L;

    public static void main(String[] args) throws Exception {
        Sentences.run(EdgePaymentTest.class);
    }

    private static String amount(long amount) {
        return String.format("%012d", amount);
    }

    private static int ask(PaymentSwitch x, int trace, int card, long amount, int mode) {
        x.ask(0, 0, trace, card, amount, mode, trace);
        return x.send();
    }

    // ---- 100 and 101: what refuses them

    @Sentence("with the KEY acquirer and REFERENCE: 94: there is a PAYMENT with this key.")
    static void keys(Check check) {
        PaymentSwitch x = Fixture.opened(30);
        check.same("the first", Wire.request(100, 0, 1).letters(37, "ABCDEF000000").send(x), 0);
        check.same("its key", Wire.request(100, 0, 2).letters(37, "ABCDEF000000").send(x), 94);
        check.same("94 by its key is written", x.count(3), 2);
        check.same("and kept", x.count(1), 2);
        check.same("of another acquirer", Wire.request(100, 1, 2).letters(37, "ABCDEF000000").send(x), 0);
        check.same("another first letter", Wire.request(100, 0, 3).letters(37, "BBCDEF000000").send(x), 0);
        check.same("another last letter", Wire.request(100, 0, 4).letters(37, "ABCDEF000001").send(x), 0);
        check.same("four payments", x.count(0), 4);
    }

    @Sentence("with the KEY acquirer and REFERENCE: 94: there is a PAYMENT with this key.")
    static void keysOfEveryLetter(Check check) {
        for (int i = 0; i < 12; i++) {
            PaymentSwitch x = Fixture.opened(30);
            Wire.request(100, 0, 1).letters(37, "000000000000").send(x);
            String other = "0".repeat(i) + "1" + "0".repeat(11 - i);
            check.same("letter " + i, Wire.request(100, 0, 2).letters(37, other).send(x), 0);
        }
    }

    @Sentence("94: there is a PAYMENT with this key.")
    static void keysOfAllThereAre(Check check) {
        PaymentSwitch x = Fixture.opened(30);
        Fixture.ask(x, 1, 0, 5);
        Fixture.undo(x, 1, 2, 0);
        x.ask(0, 0, 3, 0, 5, 0, 1);
        check.same("RELEASED", x.send(), 94);
        Fixture.ask(x, 4, 0, 5);
        Fixture.present(x, 2, 5, 5, 0);
        x.ask(0, 0, 6, 0, 5, 0, 4);
        check.same("DONE", x.send(), 94);
        x.cutoff();
        x.ask(0, 0, 7, 0, 5, 0, 1);
        check.same("FORGOTTEN", x.send(), 0);
        x.ask(0, 0, 8, 0, 5, 0, 4);
        check.same("DONE, behind a cutoff", x.send(), 94);
        check.same("the last of them", x.payment(3, 7), 7);
    }

    @Sentence("12: CURRENCY is not 978.")
    static void currencies(Check check) {
        PaymentSwitch x = Fixture.opened(30);
        String[] wrong = {"977", "979", "000", "999", "878", "078", "879"};
        for (int i = 0; i < wrong.length; i++) {
            check.same("CURRENCY " + wrong[i], Wire.request(100, 0, i).digits(49, wrong[i]).send(x), 12);
        }
        check.same("no payment came", x.count(0), 0);
        check.same("CURRENCY 978", Wire.request(100, 0, 99).send(x), 0);
    }

    @Sentence("13: AMOUNT is 0.")
    static void amountsOfNothing(Check check) {
        PaymentSwitch x = Fixture.opened(30);
        check.same("AMOUNT 0", ask(x, 1, 0, 0, 0), 13);
        check.same("AMOUNT 0, MODE 1", ask(x, 2, 0, 0, 1), 13);
        check.same("no payment came", x.count(0), 0);
        check.same("AMOUNT 1", ask(x, 3, 0, 1, 0), 0);
    }

    @Sentence("92: CARD has no route.")
    static void cardsWithoutRoutes(Check check) {
        PaymentSwitch x = Fixture.opened(30);
        String[] none = {"4", "0", "51", "042", "14", "40", "42000000", "0410000000019", "9".repeat(19)};
        for (int i = 0; i < none.length; i++) {
            check.same("CARD " + none[i], Wire.request(100, 0, i).digits(2, none[i]).send(x), 92);
        }
        String[] routed = {"41", "52", "410", "4199", "41".repeat(4), "41".repeat(9) + "4"};
        for (int i = 0; i < routed.length; i++) {
            check.same("CARD " + routed[i], Wire.request(100, 0, 20 + i).digits(2, routed[i]).send(x), 14);
        }
        check.same("no payment came", x.count(0), 0);
    }

    @Sentence("92: CARD has no route.")
    static void routesThatBeginWithZero(Check check) {
        PaymentSwitch x = Fixture.told(30);
        x.route(0, 4, 2);
        x.route(0, 0, 8);
        x.open();
        check.same("04", Wire.request(100, 0, 1).digits(2, "04").send(x), 14);
        check.same("0410000000019", Wire.request(100, 0, 2).digits(2, "0410000000019").send(x), 14);
        check.same("004", Wire.request(100, 0, 3).digits(2, "004").send(x), 92);
        check.same("seven 0s", Wire.request(100, 0, 4).digits(2, "0".repeat(7)).send(x), 92);
        check.same("eight 0s", Wire.request(100, 0, 5).digits(2, "0".repeat(8)).send(x), 14);
        check.same("nineteen 0s", Wire.request(100, 0, 6).digits(2, "0".repeat(19)).send(x), 14);
        check.same("4", Wire.request(100, 0, 7).digits(2, "4").send(x), 92);
    }

    @Sentence("14: it is not GOOD, or there is no such card.")
    static void noSuchCard(Check check) {
        PaymentSwitch x = Fixture.opened(30);
        check.same("not GOOD", Wire.request(100, 0, 1).digits(2, "410000000018").send(x), 14);
        check.same("GOOD, but not told", Wire.request(100, 0, 2).digits(2, "" + Fixture.good(41000000777L)).send(x), 14);
        check.same("a digit more", Wire.request(100, 0, 3).digits(2, "4100000000190").send(x), 14);
        check.same("a digit less", Wire.request(100, 0, 4).digits(2, "41000000001").send(x), 14);
        check.same("no payment came", x.count(0), 0);
        check.same("the card", Wire.request(100, 0, 6).send(x), 0);
    }

    @Sentence("cards are the same if their digits are")
    static void zerosInFrontMakeAnotherCard(Check check) {
        PaymentSwitch x = Fixture.told(30);
        x.route(0, 0, 1);
        x.open();
        check.same("the card", Wire.request(100, 0, 1).send(x), 0);
        check.same("a request", Wire.request(100, 0, 2).digits(2, "0410000000019").send(x), 14);
        Wire presentment = Wire.presentment(220, 0, 3).letters(37, "000000000001");
        check.same("a presentment", presentment.digits(2, "0410000000019").send(x), 12);
        Wire reversal = Wire.reversal(400, 0, 4).letters(37, "000000000001")
                .digits(90, "0100" + "000001" + "0".repeat(32));
        check.same("a reversal", reversal.digits(2, "00410000000019").send(x), 12);
        check.same("the card itself", presentment.digits(11, "000005").digits(2, "410000000019").send(x), 0);
    }

    @Sentence("62: the card is blocked.")
    static void blockedCards(Check check) {
        PaymentSwitch x = Fixture.opened(30);
        x.block(0, true);
        check.same("the card", ask(x, 1, 0, 1, 0), 62);
        check.same("another card of its account", ask(x, 2, 1, 1, 0), 0);
        check.same("ahead of 51", ask(x, 3, 0, 99999, 0), 62);
        x.block(0, false);
        x.block(1, true);
        check.same("no more", ask(x, 4, 0, 1, 0), 0);
        check.same("the other one", ask(x, 5, 1, 1, 0), 62);
        check.same("a presentment is not refused", Fixture.present(x, 1, 6, 1, 0), 0);
    }

    // ---- 65

    @Sentence("65: MANY payments of its account or more were approved (0 or 10) WINDOW ticks ago or less")
    static void manyOrMore(Check check) {
        for (int many = 1; many <= 8; many++) {
            PaymentSwitch x = Fixture.opened(30, 100, 10, 100, many);
            for (int i = 1; i <= many; i++) {
                check.same("one less than MANY", ask(x, i, i % 2, 1, 0), 0);
            }
            check.same("MANY", ask(x, 20, 0, 1, 0), 65);
            check.same("MANY, of its other card", ask(x, 21, 1, 1, 0), 65);
            check.same("65 is not counted", x.funds(0, 4), many);
            check.same("another account", ask(x, 22, 2, 1, 0), 0);
        }
    }

    @Sentence("were approved (0 or 10) WINDOW ticks ago or less")
    static void windowTicksAgo(Check check) {
        PaymentSwitch x = Fixture.opened(30, 100, 10, 100, 2);
        ask(x, 1, 0, 1, 0);
        x.ticks(1);
        ask(x, 2, 0, 1, 0);
        x.ticks(9);
        check.same("WINDOW and WINDOW - 1 ticks ago", ask(x, 3, 0, 1, 0), 65);
        x.ticks(1);
        check.same("WINDOW + 1 and WINDOW ticks ago", ask(x, 4, 0, 1, 0), 0);
        check.same("WINDOW and no ticks ago", ask(x, 5, 0, 1, 0), 65);
        x.ticks(1);
        check.same("WINDOW + 1 and one tick ago", ask(x, 6, 0, 1, 0), 0);
    }

    @Sentence("were approved (0 or 10) WINDOW ticks ago or less")
    static void refusedOnesAreNotApproved(Check check) {
        PaymentSwitch x = Fixture.opened(30, 100, 10, 100, 2);
        check.same("51", ask(x, 1, 0, 99999, 0), 51);
        check.same("13", ask(x, 2, 0, 0, 0), 13);
        x.ask(0, 0, 3, 0, 1, 0, 3);
        x.digits(49, 1);
        check.same("12", Fixture.sent(x), 12);
        check.same("10", ask(x, 4, 0, 99999, 1), 10);
        check.same("counted", x.funds(0, 4), 1);
        Fixture.undo(x, 1, 5, 0);
        check.same("again 10", ask(x, 6, 0, 99999, 1), 10);
        Fixture.undo(x, 2, 7, 0);
        check.same("both counted", ask(x, 8, 0, 1, 0), 65);
        check.same("a repeated one is not", ask(x, 6, 0, 99999, 1), 10);
        check.same("two", x.funds(0, 4), 2);
    }

    @Sentence("whatever became of them (FORGOTTEN or not, behind recovery, too)")
    static void whateverBecameOfThem(Check check) {
        PaymentSwitch x = Fixture.opened(30, 5, 100, 1, 3);
        ask(x, 1, 0, 10, 0);
        ask(x, 2, 0, 10, 0);
        ask(x, 3, 0, 10, 0);
        Fixture.undo(x, 1, 4, 0);
        Fixture.present(x, 2, 5, 10, 0);
        check.same("RELEASED, DONE, HELD", ask(x, 6, 0, 1, 0), 65);
        x.ticks(5);
        check.same("all are forgotten", x.cutoff(), 3);
        check.same("no payments", x.count(0), 0);
        check.same("FORGOTTEN", ask(x, 7, 0, 1, 0), 65);
        x.crash(0);
        x.recover();
        check.same("behind recovery from the journal", ask(x, 8, 0, 1, 0), 65);
        x.checkpoint();
        x.crash(0);
        x.recover();
        check.same("behind recovery from a snapshot", ask(x, 9, 0, 1, 0), 65);
        x.ticks(95);
        check.same("WINDOW ticks ago", ask(x, 10, 0, 1, 0), 65);
        x.ticks(1);
        check.same("more", ask(x, 11, 0, 1, 0), 0);
    }

    @Sentence("65: MANY payments of its account or more were approved")
    static void eightTimesEight(Check check) {
        PaymentSwitch x = Fixture.opened(30, 1, 2, 1, 8);
        int trace = 0;
        for (int round = 0; round < 3; round++) {
            for (int i = 0; i < 8; i++) {
                trace++;
                check.same("approval " + i + " of round " + round, ask(x, trace, 0, 1, 0), 0);
            }
            trace++;
            check.same("nine", ask(x, trace, 0, 1, 0), 65);
            x.ticks(3);
            x.cutoff();
            x.checkpoint();
        }
    }

    // ---- 96 and the order of all these

    @Sentence("96: there are 60 payments.")
    static void sixtyPayments(Check check) {
        PaymentSwitch x = Fixture.opened(30);
        Fixture.advise(x, 59);
        x.checkpoint();
        check.same("payment 60", ask(x, 1, 0, 1, 0), 0);
        check.same("60", x.count(0), 60);
        check.same("payment 61", ask(x, 2, 0, 1, 0), 96);
        check.same("ahead of 51", ask(x, 3, 0, 99999, 0), 96);
        check.same("no payment came", x.count(0), 60);
        check.same("no number went", x.count(4), 61);
        check.same("no approval", x.funds(0, 4), 1);
        check.same("it is written", x.count(2), 3);
        check.same("59 are forgotten", x.cutoff(), 59);
        check.same("then there is room", ask(x, 4, 0, 1, 0), 0);
        check.same("with the next number", x.payment(61, 1), 1);
    }

    @Sentence("94: there is a PAYMENT with this key. 12: CURRENCY is not 978. 13: AMOUNT is 0. 92: CARD has no route. "
            + "14: it is not GOOD, or there is no such card. 62: the card is blocked. 65:")
    static void theFirstReasonCounts(Check check) {
        PaymentSwitch x = Fixture.opened(30, 100, 10, 100, 1);
        x.block(1, true);
        ask(x, 1, 0, 1, 0);
        Wire bad = Wire.request(100, 0, 2).letters(37, "000000000001").digits(49, "840").digits(4, amount(0))
                .digits(2, "9");
        check.same("94", bad.send(x), 94);
        check.same("12", bad.digits(11, "000003").letters(37, "000000000003").send(x), 12);
        check.same("13", bad.digits(11, "000004").digits(49, "978").send(x), 13);
        check.same("92", bad.digits(11, "000005").digits(4, amount(99999)).send(x), 92);
        check.same("14", bad.digits(11, "000006").digits(2, "419").send(x), 14);
        check.same("62", bad.digits(11, "000007").digits(2, "" + Fixture.CARD_1).send(x), 62);
        x.block(1, false);
        check.same("65", bad.digits(11, "000008").send(x), 65);
        x.ticks(11);
        check.same("51", bad.digits(11, "000009").send(x), 51);
        check.same("0", bad.digits(11, "000010").digits(4, amount(9999)).send(x), 0);
        check.same("each is written", x.count(3), 13);
    }

    @Sentence("96: there are 60 payments.")
    static void ninetySixIsBehindSixtyFive(Check check) {
        PaymentSwitch x = Fixture.opened(30, 100, 10, 100, 1);
        ask(x, 1, 0, 1, 0);
        Fixture.advise(x, 59);
        x.checkpoint();
        check.same("60", x.count(0), 60);
        check.same("65 is ahead", ask(x, 2, 0, 1, 0), 65);
        check.same("96", ask(x, 3, 2, 1, 0), 96);
        check.same("13 is ahead", ask(x, 4, 2, 0, 0), 13);
        check.same("94 is ahead", Wire.request(100, 0, 5).letters(37, "000000000001").send(x), 94);
    }

    // ---- 100 and 101: what is held

    @Sentence("AMOUNT, if that is not above FREE: 0")
    static void amountsUpToFree(Check check) {
        PaymentSwitch x = Fixture.opened(30);
        check.same("FREE is", x.funds(1, 3), 6000);
        check.same("one above FREE", ask(x, 1, 2, 6001, 0), 51);
        check.same("FREE", ask(x, 2, 2, 6000, 0), 0);
        check.same("is held", x.payment(1, 1), 6000);
        check.same("nothing is FREE", x.funds(1, 3), 0);
        check.same("one above that", ask(x, 3, 2, 1, 0), 51);
        check.same("the most AMOUNT", ask(x, 4, 0, MOST_AMOUNT, 0), 51);
    }

    @Sentence("FREE being the account's balance less its minimum, what is held of it and what is LOCKED")
    static void freeIsLessWhatIsHeldAndLocked(Check check) {
        PaymentSwitch x = Fixture.opened(30);
        ask(x, 1, 2, 1000, 0);
        Fixture.present(x, 1, 2, 1000, 0);
        x.charge(1, 300);
        ask(x, 3, 2, 200, 0);
        // The balance is 4300, the minimum -1000, held 200, locked 300.
        check.same("above FREE", ask(x, 4, 2, 4801, 0), 51);
        check.same("FREE", ask(x, 5, 2, 4800, 0), 0);
    }

    @Sentence("else FREE, if MODE is 1 and that is above 0: 10; else 51")
    static void someOfIt(Check check) {
        PaymentSwitch x = Fixture.opened(30);
        check.same("AMOUNT is above FREE by 1", ask(x, 1, 2, 6001, 1), 10);
        check.same("FREE is held", x.payment(1, 1), 6000);
        check.same("FREE is 0", ask(x, 2, 2, 1, 1), 51);
        check.same("FREE is below 0", ask(x, 3, 4, 1, 1), 51);
        ask(x, 4, 3, 499, 0);
        check.same("FREE is 1", ask(x, 5, 3, 2, 1), 10);
        check.same("1 is held", x.payment(3, 1), 1);
        check.same("AMOUNT is FREE", ask(x, 6, 0, 10000, 1), 0);
        check.same("no payment came but these", x.count(0), 4);
    }

    @Sentence("else FREE, if MODE is 1 and that is above 0: 10; else 51")
    static void otherModes(Check check) {
        PaymentSwitch x = Fixture.opened(30);
        int[] modes = {0, 2, 10, 11, 100000, 100001, 999999};
        for (int i = 0; i < modes.length; i++) {
            check.same("MODE " + modes[i], ask(x, i, 2, 6001, modes[i]), 51);
        }
        check.same("no payment came", x.count(0), 0);
        check.same("no number went", x.count(4), 1);
        check.same("MODE 999999 with enough", ask(x, 99, 2, 6000, 999999), 0);
    }

    @Sentence("With 0 and 10 a payment comes, with a NUMBER (1, 2, ..), HELD with so much, until TIME and HOLD")
    static void numbersGoOn(Check check) {
        PaymentSwitch x = Fixture.opened(30, 7, 50, 50, 8);
        x.ticks(3);
        check.same("0", ask(x, 1, 0, 1, 0), 0);
        check.same("51", ask(x, 2, 0, 99999, 0), 51);
        check.same("10", ask(x, 3, 0, 99999, 1), 10);
        check.same("the next", x.count(4), 3);
        check.same("1 is HELD until", x.payment(1, 3), 10);
        check.same("2 is HELD with", x.payment(2, 1), 9999);
        Fixture.undo(x, 2, 4, 0);
        x.cutoff();
        check.same("a number is not used again", ask(x, 5, 0, 1, 0), 0);
        check.same("3 is", x.payment(3, 0), 1);
        check.badArgument("2 is none", () -> x.payment(2, 0));
    }

    @Sentence("AMOUNT of the answer is that; APPROVAL is the number, in six letters to the base 36.")
    static void answersOfApprovals(Check check) {
        PaymentSwitch x = Fixture.opened(30);
        Fixture.advise(x, 34);
        x.checkpoint();
        Wire.request(100, 0, 1).send(x);
        Wire due = Wire.request(110, 0, 1).without(3).letters(39, "00");
        check.text("payment 35", Fixture.answerOf(x), due.letters(38, "00000Z").hex());
        Wire.request(100, 0, 2).digits(4, amount(99999)).digits(3, "000001").send(x);
        due = Wire.request(110, 0, 2).without(3).letters(39, "10").digits(4, amount(9995));
        check.text("payment 36, some of it", Fixture.answerOf(x), due.letters(38, "000010").hex());
        check.same("APPROVAL of 35", Fixture.present(x, 35, 3, 1, 1), 0);
        check.same("APPROVAL of 36", Fixture.present(x, 36, 4, 1, 1), 0);
    }

    @Sentence("AMOUNT (of 4) or APPROVAL, COUNT, SUM where it is told here")
    static void answersOfRefusals(Check check) {
        PaymentSwitch x = Fixture.opened(30);
        Wire.request(100, 0, 1).digits(4, amount(99999)).send(x);
        check.text("51 has no APPROVAL, and AMOUNT as it came", Fixture.answerOf(x),
                Wire.request(110, 0, 1).without(3).digits(4, amount(99999)).letters(39, "51").hex());
        Wire.request(100, 0, 2).digits(4, amount(0)).send(x);
        check.text("13", Fixture.answerOf(x),
                Wire.request(110, 0, 2).without(3).digits(4, amount(0)).letters(39, "13").hex());
        Wire.presentment(220, 0, 3).send(x);
        check.text("25 of a presentment", Fixture.answerOf(x),
                Wire.presentment(230, 0, 3).without(3).without(38).letters(39, "25").hex());
        Wire.reversal(420, 0, 4).digits(95, amount(7)).send(x);
        check.text("25 of an advice", Fixture.answerOf(x), Wire.reversal(430, 0, 4).without(90).letters(39, "25").hex());
    }

    // ---- 220 and 221

    @Sentence("220, 221, for the payment with this key: 25: there is none.")
    static void presentmentsForNone(Check check) {
        PaymentSwitch x = Fixture.opened(30);
        check.same("without payments", Wire.presentment(220, 0, 1).send(x), 25);
        Wire.request(100, 0, 2).send(x);
        check.same("of another acquirer", Wire.presentment(220, 1, 2).send(x), 25);
        check.same("of another reference", Wire.presentment(220, 0, 3).send(x), 25);
        check.same("ahead of 12 and 13", Wire.presentment(220, 0, 4).digits(4, amount(0)).digits(2, "5").send(x), 25);
        check.same("nothing is cleared", x.payment(1, 2), 0);
        check.same("each is written", x.count(3), 5);
    }

    @Sentence("12: it is not HELD, or has another CARD, or another APPROVAL.")
    static void presentmentsOfWhatIsNotHeld(Check check) {
        PaymentSwitch x = Fixture.opened(30, 5, 50, 50, 8);
        Wire.request(100, 0, 1).send(x);
        Fixture.undo(x, 1, 2, 0);
        check.same("RELEASED", Fixture.present(x, 1, 3, 5, 0), 12);
        Wire.request(100, 0, 4).send(x);
        Fixture.present(x, 2, 5, 5, 0);
        check.same("DONE", Fixture.present(x, 2, 6, 5, 0), 12);
        Wire.request(100, 0, 7).send(x);
        x.ticks(5);
        check.same("RELEASED by time", Fixture.present(x, 3, 8, 5, 0), 12);
        Wire.reversal(420, 0, 9).send(x);
        check.same("advised", Fixture.present(x, 4, 10, 5, 0), 12);
        check.same("ahead of 13", Fixture.present(x, 4, 11, 0, 0), 12);
    }

    @Sentence("12: it is not HELD, or has another CARD, or another APPROVAL.")
    static void presentmentsOfAnotherCard(Check check) {
        PaymentSwitch x = Fixture.opened(30);
        Wire.request(100, 0, 1).send(x);
        String[] others = {"410000000018", "410000000027", "510000000019", "4100000000190", "41000000001", "4",
            "0410000000019", "41000000002000002"};
        for (int i = 0; i < others.length; i++) {
            Wire m = Wire.presentment(220, 0, 10 + i).letters(37, "000000000001").digits(2, others[i]);
            check.same("CARD " + others[i], m.send(x), 12);
        }
        Wire m = Wire.presentment(220, 0, 30).letters(37, "000000000001").digits(2, "5").digits(4, amount(0));
        check.same("ahead of 13", m.send(x), 12);
        check.same("nothing is cleared", x.payment(1, 2), 0);
        check.same("its CARD", Fixture.present(x, 1, 40, 5, 0), 0);
    }

    @Sentence("12: it is not HELD, or has another CARD, or another APPROVAL.")
    static void presentmentsOfAnotherApproval(Check check) {
        PaymentSwitch x = Fixture.opened(30);
        Wire.request(100, 0, 1).send(x);
        String[] others = {"000000", "000002", "00000A", "100001", "010001", "001001", "000101", "000011", "100000",
            "00000Z", "ZZZZZZ"};
        for (int i = 0; i < others.length; i++) {
            Wire m = Wire.presentment(220, 0, 10 + i).letters(37, "000000000001").letters(38, others[i]);
            check.same("APPROVAL " + others[i], m.send(x), 12);
        }
        Wire m = Wire.presentment(220, 0, 30).letters(37, "000000000001").letters(38, "000002").digits(4, amount(0));
        check.same("ahead of 13", m.send(x), 12);
        check.same("nothing is cleared", x.payment(1, 2), 0);
    }

    @Sentence("13: AMOUNT is 0, or above what is held.")
    static void presentedAmounts(Check check) {
        PaymentSwitch x = Fixture.opened(30);
        ask(x, 1, 0, 100, 0);
        check.same("0", Fixture.present(x, 1, 2, 0, 1), 13);
        check.same("one above", Fixture.present(x, 1, 3, 101, 1), 13);
        check.same("the most", Fixture.present(x, 1, 4, MOST_AMOUNT, 0), 13);
        check.same("1", Fixture.present(x, 1, 5, 1, 1), 0);
        check.same("one above what is left", Fixture.present(x, 1, 6, 100, 1), 13);
        Fixture.undo(x, 1, 7, 0);
        check.same("what is left", Fixture.present(x, 1, 8, 99, 1), 0);
        check.same("cleared", x.payment(1, 2), 100);
        ask(x, 9, 0, 100, 0);
        Fixture.undo(x, 2, 10, 40);
        check.same("one above a replacement", Fixture.present(x, 2, 11, 41, 1), 13);
        check.same("a replacement", Fixture.present(x, 2, 12, 40, 1), 0);
    }

    @Sentence("0: so much is CLEARED: it is held no more; the balance becomes less by it; the acquirer's BATCH has one "
            + "more, and this amount.")
    static void clearedLeastAndMost(Check check) {
        PaymentSwitch x = Fixture.single(1000, 1000, 1000000000000L, 0);
        check.same("request", ask(x, 1, 0, MOST_AMOUNT, 0), 0);
        check.same("1 of it", Fixture.present(x, 1, 2, 1, 1), 0);
        check.same("held", x.funds(0, 1), MOST_AMOUNT - 1);
        check.same("balance", x.funds(0, 0), MOST_AMOUNT);
        check.same("FREE", x.funds(0, 3), 1);
        check.same("the rest", Fixture.present(x, 1, 3, MOST_AMOUNT - 1, 0), 0);
        check.same("balance", x.funds(0, 0), 1);
        check.same("batch", x.acquired(0, 2), 2);
        check.same("its sum", x.acquired(0, 3), MOST_AMOUNT);
        check.same("audit", x.audit(), 0);
    }

    @Sentence("If MODE is not 1, or nothing is held any more, nothing of it is held any more and it is DONE; the time of "
            + "that is kept.")
    static void modesOfPresentments(Check check) {
        int[] modes = {0, 2, 11, 100000, 999999};
        for (int mode : modes) {
            PaymentSwitch x = Fixture.opened(30);
            ask(x, 1, 0, 100, 0);
            x.ticks(3);
            check.same("MODE " + mode, Fixture.present(x, 1, 2, 1, mode), 0);
            check.same("is DONE", x.payment(1, 0), 3);
            check.same("holds nothing", x.payment(1, 1) + x.funds(0, 1), 0);
            check.same("cleared", x.payment(1, 2), 1);
            check.same("then", x.payment(1, 4), 3);
            check.same("until", x.payment(1, 3), 0);
            check.same("FREE", x.funds(0, 3), 9999);
        }
    }

    @Sentence("If MODE is not 1, or nothing is held any more, nothing of it is held any more and it is DONE; the time of "
            + "that is kept.")
    static void nothingIsHeldAnyMore(Check check) {
        PaymentSwitch x = Fixture.opened(30);
        ask(x, 1, 0, 100, 0);
        Fixture.present(x, 1, 2, 99, 1);
        check.same("one is held", x.payment(1, 0) * 10 + x.payment(1, 1), 11);
        check.same("not DONE", x.payment(1, 4), PaymentSwitch.NONE);
        check.same("still until", x.payment(1, 3), 100);
        x.ticks(5);
        Fixture.present(x, 1, 3, 1, 1);
        check.same("nothing is held", x.payment(1, 0) * 10 + x.payment(1, 1), 30);
        check.same("DONE then", x.payment(1, 4), 5);
        check.same("two in the batch", x.acquired(0, 2), 2);
    }

    // ---- 400, 401, 420, 421

    @Sentence("400, 401, 420, 421: 25: there is no payment with this key")
    static void reversalsOfNone(Check check) {
        PaymentSwitch x = Fixture.opened(30);
        Wire.request(100, 0, 1).send(x);
        check.same("400 of another acquirer", Wire.reversal(400, 1, 1).send(x), 25);
        check.same("401 of another reference", Wire.reversal(401, 0, 2).send(x), 25);
        check.same("400 and 401 make none", x.count(0), 1);
        check.same("no number went", x.count(4), 2);
        check.same("420 of another acquirer", Wire.reversal(420, 1, 3).letters(37, "000000000001").send(x), 25);
        check.same("421 of another reference", Wire.reversal(421, 0, 4).send(x), 25);
        check.same("420 and 421 do", x.count(0), 3);
        check.same("the first is held", x.payment(1, 1), 5);
    }

    @Sentence("(of 420, 421, if there are less than 60 payments, one comes that is RELEASED, with this CARD and TRACE, of "
            + "no account; it takes the next NUMBER)")
    static void advices(Check check) {
        PaymentSwitch x = Fixture.opened(30);
        Wire.reversal(421, 1, 999999).digits(2, "7").digits(90, "9".repeat(42)).digits(95, amount(5)).send(x);
        long[] due = {2, 0, 0, 0, -1, -1, 1, 999999, 0, 0, -1};
        for (int what = 0; what < due.length; what++) {
            check.same("payment(1, " + what + ")", x.payment(1, what), due[what]);
        }
        check.same("the next number", x.count(4), 2);
        check.same("no approval", x.funds(0, 4), 0);
        check.same("its key is used", Wire.request(100, 1, 2).letters(37, "000000999999").send(x), 94);
        check.same("its CARD", Wire.reversal(400, 1, 3).letters(37, "000000999999").digits(2, "7").send(x), 0);
        check.same("another CARD", Wire.reversal(400, 1, 4).letters(37, "000000999999").send(x), 12);
        check.same("audit", x.audit(), 0);
        check.same("it is forgotten", x.cutoff(), 1);
    }

    @Sentence("if there are less than 60 payments")
    static void advicesOfSixty(Check check) {
        PaymentSwitch x = Fixture.opened(30);
        Fixture.advise(x, 59);
        x.checkpoint();
        check.same("advice 60", Wire.reversal(420, 0, 1).send(x), 25);
        check.same("makes payment 60", x.count(0) * 100 + x.count(4), 6061);
        check.same("advice 61", Wire.reversal(420, 0, 2).send(x), 25);
        check.same("makes none", x.count(0) * 100 + x.count(4), 6061);
        check.badArgument("there is no payment 61", () -> x.payment(61, 0));
        check.same("it is written", x.count(2), 2);
        check.same("it is answered again", Wire.reversal(421, 0, 2).send(x), 25);
        x.cutoff();
        check.same("another one", Wire.reversal(420, 0, 3).send(x), 25);
        check.same("makes payment 61", x.payment(61, 0), 2);
    }

    @Sentence("12: it has another CARD, or it is HELD and ORIGINAL is not 0100, its first message's TRACE, 10 zeros, the "
            + "acquirer in 11 digits, 11 zeros")
    static void everyDigitOfOriginal(Check check) {
        String good = "0100" + "654321" + "0000000000" + "00000000001" + "00000000000";
        for (int i = 0; i < 42; i++) {
            PaymentSwitch x = Fixture.opened(30);
            Wire.request(100, 1, 654321).send(x);
            char other = good.charAt(i) == '9' ? '0' : (char) (good.charAt(i) + 1);
            Wire m = Wire.reversal(400, 1, 1).letters(37, "000000654321");
            check.same("digit " + i, m.digits(90, good.substring(0, i) + other + good.substring(i + 1)).send(x), 12);
            check.same("it is held", x.payment(1, 1), 5);
            check.same("all digits", m.digits(11, "000002").digits(90, good).send(x), 0);
            check.same("it is RELEASED", x.payment(1, 0), 2);
        }
    }

    @Sentence("12: it has another CARD, or it is HELD and ORIGINAL is not 0100, its first message's TRACE")
    static void originalOfARepeatedRequest(Check check) {
        PaymentSwitch x = Fixture.opened(30);
        Wire.request(101, 0, 1).send(x);
        Wire m = Wire.reversal(400, 0, 2).letters(37, "000000000001");
        check.same("0101", m.digits(90, "0101" + "000001" + "0".repeat(32)).send(x), 12);
        check.same("0100", m.digits(11, "000003").digits(90, "0100" + "000001" + "0".repeat(32)).send(x), 0);
    }

    @Sentence("12: it has another CARD")
    static void reversalsOfAnotherCard(Check check) {
        PaymentSwitch x = Fixture.opened(30);
        Wire.request(100, 0, 1).send(x);
        String[] others = {"410000000018", "410000000027", "4100000000190", "41000000001", "0410000000019"};
        for (int i = 0; i < others.length; i++) {
            Wire m = Wire.reversal(420, 0, 2 + i).letters(37, "000000000001")
                    .digits(90, "0100" + "000001" + "0".repeat(32));
            check.same("CARD " + others[i], m.digits(2, others[i]).send(x), 12);
        }
        check.same("it is held", x.payment(1, 1), 5);
        check.same("no payment came", x.count(0), 1);
    }

    @Sentence("or something of it is cleared")
    static void reversalsOfWhatIsCleared(Check check) {
        PaymentSwitch x = Fixture.opened(30, 5, 50, 50, 8);
        ask(x, 1, 0, 100, 0);
        Fixture.present(x, 1, 2, 1, 1);
        check.same("HELD, 1 is cleared", Fixture.undo(x, 1, 3, 0), 12);
        check.same("with REPLACEMENT", Fixture.undo(x, 1, 4, 50), 12);
        check.same("it is held", x.payment(1, 1), 99);
        x.ticks(5);
        check.same("DONE by time", Fixture.undo(x, 1, 5, 0), 12);
        ask(x, 6, 0, 100, 0);
        Fixture.present(x, 2, 7, 100, 0);
        check.same("DONE", Fixture.undo(x, 2, 8, 0), 12);
        check.same("it is DONE", x.payment(2, 0), 3);
        check.same("nothing is given back", x.funds(0, 0), 9899);
    }

    @Sentence("0: it is RELEASED already")
    static void reversalsOfWhatIsReleased(Check check) {
        PaymentSwitch x = Fixture.opened(30, 5, 50, 50, 8);
        ask(x, 1, 0, 100, 0);
        Fixture.undo(x, 1, 2, 0);
        String before = Picture.ofState(x).replaceAll("count .*\n", "");
        check.same("again", Fixture.undo(x, 1, 3, 0), 0);
        check.same("with REPLACEMENT", Fixture.undo(x, 1, 4, 1), 0);
        Wire m = Wire.reversal(400, 0, 5).letters(37, "000000000001").digits(90, "9".repeat(42));
        check.same("with another ORIGINAL", m.send(x), 0);
        check.text("nothing changed", Picture.ofState(x).replaceAll("count .*\n", ""), before);
        ask(x, 6, 0, 100, 0);
        x.ticks(5);
        check.same("RELEASED by time", Fixture.undo(x, 2, 7, 50), 0);
        check.same("nothing is held", x.funds(0, 1), 0);
    }

    @Sentence("or it is HELD: nothing of it is held, and it is RELEASED; but with REPLACEMENT that is above 0 and less than "
            + "what is held: so much is held")
    static void replacements(Check check) {
        long[] left = {0, 1, 99, 100, 101, MOST_AMOUNT};
        long[] held = {0, 1, 99, 0, 0, 0};
        for (int i = 0; i < left.length; i++) {
            PaymentSwitch x = Fixture.opened(30);
            ask(x, 1, 0, 100, 0);
            Wire m = Wire.reversal(i % 2 == 0 ? 400 : 420, 0, 2).letters(37, "000000000001")
                    .digits(90, "0100" + "000001" + "0".repeat(32)).digits(95, amount(left[i]));
            check.same("REPLACEMENT " + left[i], m.send(x), 0);
            check.same("held", x.payment(1, 1), held[i]);
            check.same("held of the account", x.funds(0, 1), held[i]);
            check.same("FREE", x.funds(0, 3), 10000 - held[i]);
            check.same("state", x.payment(1, 0), held[i] > 0 ? 1 : 2);
            check.same("until", x.payment(1, 3), held[i] > 0 ? 100 : 0);
        }
    }

    @Sentence("but with REPLACEMENT that is above 0 and less than what is held: so much is held")
    static void replacementsOfReplacements(Check check) {
        PaymentSwitch x = Fixture.opened(30);
        ask(x, 1, 0, 100, 0);
        check.same("50", Fixture.undo(x, 1, 2, 50), 0);
        check.same("49", Fixture.undo(x, 1, 3, 49), 0);
        check.same("49 are held", x.funds(0, 1), 49);
        check.same("50 is above that", Fixture.undo(x, 1, 4, 50), 0);
        check.same("it is RELEASED", x.payment(1, 0), 2);
    }

    // ---- 500 and 501

    @Sentence("0 if COUNT and SUM are those of the acquirer's batch, which is empty then; else 95.")
    static void batches(Check check) {
        String[] counts = {"0000000001", "0000000002", "0000000000", "0000000001", "0000000001", "4294967297",
            "9999999999", "0000000001", "0000000000"};
        String[] sums = {"0000000000000005", "0000000000000005", "0000000000000005", "0000000000000004",
            "0000000000000006", "0000000000000005", "0000000000000005", "0000004294967301", "0000000000000000"};
        for (int i = 0; i < counts.length; i++) {
            PaymentSwitch x = Fixture.opened(30);
            Fixture.done(x, 5);
            Wire m = Wire.totals(500 + i % 2, 0, 3).digits(74, counts[i]).digits(86, sums[i]);
            check.same("COUNT " + counts[i] + ", SUM " + sums[i], m.send(x), i == 0 ? 0 : 95);
            check.same("count of the batch", x.acquired(0, 2), i == 0 ? 0 : 1);
            check.same("sum of the batch", x.acquired(0, 3), i == 0 ? 0 : 5);
        }
    }

    @Sentence("0 if COUNT and SUM are those of the acquirer's batch, which is empty then; else 95.")
    static void emptyBatches(Check check) {
        PaymentSwitch x = Fixture.opened(30);
        check.same("0 and 0", Wire.totals(500, 0, 1).send(x), 0);
        check.same("1 and 0", Wire.totals(500, 0, 2).digits(74, "0000000001").send(x), 95);
        check.same("0 and 1", Wire.totals(500, 0, 3).digits(86, "0000000000000001").send(x), 95);
        Fixture.done(x, 5);
        check.same("the batch of another acquirer", Wire.totals(500, 1, 4).send(x), 0);
        check.same("stays", x.acquired(0, 2), 1);
        x.total(0, 5);
        check.same("its own", x.send(), 0);
        check.same("is empty then", Wire.totals(500, 0, 6).send(x), 0);
    }

    @Sentence("COUNT and SUM of the answer are those of the batch (as it was).")
    static void answersOfTotals(Check check) {
        PaymentSwitch x = Fixture.opened(30);
        Fixture.done(x, 5);
        Wire due = Wire.totals(510, 0, 9).digits(74, "0000000001").digits(86, "0000000000000005");
        Wire.totals(500, 0, 9).send(x);
        check.text("95", Fixture.answerOf(x), due.letters(39, "95").hex());
        x.total(0, 10);
        x.send();
        check.text("0", Fixture.answerOf(x), due.digits(11, "000010").letters(39, "00").hex());
        x.send();
        check.text("0 again", Fixture.answerOf(x), due.hex());
        Wire.totals(500, 0, 11).send(x);
        check.text("of an empty one", Fixture.answerOf(x), Wire.totals(510, 0, 11).letters(39, "00").hex());
    }
}
