/** Sentences on edges of answers, of what is repeated and of what is kept: part 3, and promises 24 to 26. */
public final class EdgeAnswerTest {

    public static void main(String[] args) throws Exception {
        Sentences.run(EdgeAnswerTest.class);
    }

    private static Wire put(Wire m, int field) {
        switch (field) {
            case 2:
                return m.digits(2, "410000000019");
            case 32:
                return m.digits(32, "0");
            case 37:
                return m.letters(37, "000000000077");
            case 38:
                return m.letters(38, "000001");
            case 39:
                return m.letters(39, "99");
            case 41:
                return m.letters(41, "TERMINAL");
            case 54:
                return m.letters(54, "A");
            case 49:
            case 70:
                return m.digits(field, "978");
            case 74:
                return m.digits(74, "0000000000");
            case 86:
                return m.digits(86, "0000000000000000");
            case 90:
                return m.digits(90, "0".repeat(42));
            case 3:
            case 11:
                return m.digits(field, "000077");
            default:
                return m.digits(field, "000000000077");
        }
    }

    // ---- promises 24 to 26

    @Sentence("The tape is sent (and stays): RESPONSE; FAULT; CUT. Illegal state.")
    static void statesOfSend(Check check) {
        PaymentSwitch x = Fixture.told(30);
        x.ask(0, 0, 1, 0, 5, 0, 1);
        String tape = Fixture.tapeOf(x);
        check.badState("in the TABLE", x::send);
        x.open();
        check.same("RESPONSE", x.send(), 0);
        check.text("the tape stays", Fixture.tapeOf(x), tape);
        x.trim(1);
        check.same("FAULT", x.send(), PaymentSwitch.FAULT);
        check.same("the tape stays, too", x.trim(0), tape.length() / 2 - 1);
        x.ask(0, 0, 2, 0, 5, 0, 2);
        tape = Fixture.tapeOf(x);
        x.crash(1);
        check.same("CUT", x.send(), PaymentSwitch.CUT);
        check.badState("when DOWN", x::send);
        x.trim(5);
        check.badState("when DOWN, with a fault", x::send);
        x.compose();
        check.text("the tape stays", Fixture.tapeOf(x), tape);
    }

    @Sentence("With a fault it is not answered: FAULT.")
    static void faultsAreNotAnswered(Check check) {
        PaymentSwitch x = Fixture.opened(4);
        Fixture.ask(x, 1, 0, 5);
        String before = Picture.ofState(x);
        String[] faults = {"", "FFFF", "0900", "0800 0000000000000001", "0800 4000000000000000 20",
            "0800 0000000002000000 2020", "0800 0000000000000000 00"};
        for (String fault : faults) {
            Fixture.ask(x, 1, 0, 5);
            Fixture.tape(x, fault);
            check.same("send " + fault, x.send(), PaymentSwitch.FAULT);
            check.same("size", x.size(), 0);
            check.badArgument("byteAt", () -> x.byteAt(0));
        }
        check.text("nothing changed", Picture.ofState(x), before);
    }

    @Sentence("How many bytes the last answer has; 0 if the last message that was sent has none (FAULT, CUT), "
            + "or none was sent.")
    static void sizes(Check check) {
        PaymentSwitch x = Fixture.told(30);
        check.same("none was sent", x.size(), 0);
        x.open();
        check.same("none was sent when OPEN", x.size(), 0);
        Wire.network(800, 1).send(x);
        check.same("an answer", x.size(), 25);
        x.trim(1);
        check.same("the tape is not the answer", x.size(), 25);
        x.send();
        check.same("FAULT", x.size(), 0);
        Fixture.ask(x, 1, 0, 5);
        check.same("another answer", x.size(), 58);
        x.crash(1);
        Fixture.ask(x, 2, 0, 5);
        check.same("CUT", x.size(), 0);
        x.recover();
        check.same("behind recovery", x.size(), 0);
    }

    @Sentence("How many bytes the last answer has; 0 if the last message that was sent has none (FAULT, CUT), "
            + "or none was sent.")
    static void otherCallsLeaveTheAnswer(Check check) {
        PaymentSwitch x = Fixture.opened(4);
        Fixture.done(x, 5);
        String answer = Fixture.answerOf(x);
        x.ticks(1);
        x.charge(1, 5);
        check.same("FULL", x.cutoff(), PaymentSwitch.FULL);
        x.crash(1);
        check.same("a snapshot is cut", x.checkpoint(), PaymentSwitch.CUT);
        check.text("when DOWN", Fixture.answerOf(x), answer);
        x.recover();
        x.checkpoint();
        x.crash(1);
        check.same("ticks are cut", x.ticks(1), PaymentSwitch.CUT);
        x.recover();
        check.text("behind recovery", Fixture.answerOf(x), answer);
    }

    @Sentence("Byte i of the last answer. Illegal argument: there is none such.")
    static void bytesOfTheAnswer(Check check) {
        PaymentSwitch x = Fixture.opened(4);
        check.badArgument("of none", () -> x.byteAt(0));
        Wire.network(800, 123456).send(x);
        int[] out = {-1, 25, 400, Integer.MIN_VALUE, Integer.MAX_VALUE};
        for (int i : out) {
            check.badArgument("byte " + i, () -> x.byteAt(i));
        }
        check.same("the first", x.byteAt(0), 0x08);
        check.same("the last", x.byteAt(24), 0x01);
        check.text("all", Fixture.answerOf(x), Wire.network(810, 123456).letters(39, "00").hex());
    }

    // ---- the answer's form

    @Sentence("the ANSWER has the type and 10, with 0 as its last digit (that of an answer stays)")
    static void typesOfAnswers(Check check) {
        int[] due = {110, 110, 110, 230, 230, 230, 410, 410, 410, 430, 430, 430, 510, 510, 510, 810, 810};
        PaymentSwitch x = Fixture.opened(4);
        for (int i = 0; i < Fixture.TYPES.length; i++) {
            check.same("no fields, type " + Fixture.TYPES[i], new Wire(Fixture.TYPES[i]).send(x), 30);
            check.text("its answer", Fixture.answerOf(x), new Wire(due[i]).letters(39, "30").hex());
        }
    }

    @Sentence("of the fields 2, 4, 11, 32, 37, 41, 49, 70 what the message has")
    static void fieldsThatAreAnswered(Check check) {
        int[] answered = {2, 4, 11, 32, 37, 41, 49, 70};
        PaymentSwitch x = Fixture.opened(4);
        Wire all = new Wire(810);
        Wire due = new Wire(810);
        for (int field : Fixture.KNOWN_FIELDS) {
            put(all, field);
            PaymentSwitch y = Fixture.opened(4);
            put(new Wire(230), field).send(y);
            Wire alone = Fixture.isIn(field, answered) ? put(new Wire(230), field) : new Wire(230);
            check.text("field " + field + " alone", Fixture.answerOf(y), alone.letters(39, "30").hex());
            if (Fixture.isIn(field, answered)) {
                put(due, field);
            }
        }
        check.same("all fields", all.send(x), 30);
        check.text("their answer", Fixture.answerOf(x), due.letters(39, "30").hex());
    }

    @Sentence("of the fields 2, 4, 11, 32, 37, 41, 49, 70 what the message has")
    static void longestFieldsAreAnsweredAsTheyCame(Check check) {
        PaymentSwitch x = Fixture.opened(4);
        check.same("a message of these alone", longest(800).send(x), 30);
        check.text("with all 0s in front", Fixture.answerOf(x), longest(810).letters(39, "30").hex());
    }

    private static Wire longest(int type) {
        return new Wire(type).digits(2, "0".repeat(19)).digits(32, "0".repeat(11)).letters(37, "ABCDEFGHIJKL")
                .letters(41, "MNOPQRST").digits(4, "999999999999").digits(11, "999999").digits(49, "999")
                .digits(70, "999");
    }

    @Sentence("RESPONSE, which is told here as a number (of two digits)")
    static void responsesOfTwoDigits(Check check) {
        PaymentSwitch x = Fixture.opened(4);
        check.same("0", Wire.totals(500, 0, 1).send(x), 0);
        check.text("00", Fixture.answerOf(x), Wire.totals(510, 0, 1).letters(39, "00").hex());
        check.same("3", Wire.totals(500, 9, 1).send(x), 3);
        check.text("03", Fixture.answerOf(x), Wire.totals(510, 9, 1).without(74).without(86).letters(39, "03").hex());
        check.same("95", Wire.totals(500, 0, 2).digits(74, "0000000001").send(x), 95);
        check.text("95 as letters", Fixture.answerOf(x), Wire.totals(510, 0, 2).letters(39, "95").hex());
    }

    // ---- 30

    @Sentence("30: its type is that of an answer")
    static void answersAreNotAnswered(Check check) {
        PaymentSwitch x = Fixture.opened(4);
        String before = Picture.ofState(x);
        check.same("110", Wire.request(110, 0, 1).send(x), 30);
        check.same("230", Wire.presentment(230, 0, 1).send(x), 30);
        check.same("410", Wire.reversal(410, 0, 1).send(x), 30);
        check.same("430", Wire.reversal(430, 0, 1).send(x), 30);
        check.same("510", Wire.totals(510, 0, 1).send(x), 30);
        check.same("810", Wire.network(810, 1).send(x), 30);
        check.text("nothing changed", Picture.ofState(x), before);
    }

    private interface Maker {
        Wire make(int type, int trace);
    }

    private static void justTheseFields(Check check, int type, int[] wanted, int perhaps, Maker maker) {
        PaymentSwitch x = Fixture.opened(30);
        for (int field : Fixture.KNOWN_FIELDS) {
            if (Fixture.isIn(field, wanted)) {
                check.same(type + " without " + field, maker.make(type, 77).without(field).send(x), 30);
            } else if (field != perhaps) {
                check.same(type + " with " + field, put(maker.make(type, 77), field).send(x), 30);
            }
        }
        check.same("nothing was written", x.count(3), 0);
        check.same("nothing is kept", x.count(1), 0);
        Fixture.ask(x, 1, 0, 5);
        check.no(type + " with just these", maker.make(type, 78).send(x) == 30);
        if (perhaps > 0) {
            check.no(type + " with " + perhaps, put(maker.make(type, 79), perhaps).send(x) == 30);
            check.same(type + " with " + perhaps + " and without another",
                    put(maker.make(type, 80), perhaps).without(11).send(x), 30);
        }
    }

    @Sentence("it has not just these fields: 100 and 101: 2 3 4 11 32 37 41 49, and perhaps 54")
    static void fieldsOfRequests(Check check) {
        int[] wanted = {2, 3, 4, 11, 32, 37, 41, 49};
        justTheseFields(check, 100, wanted, 54, (type, trace) -> Wire.request(type, 0, trace));
        justTheseFields(check, 101, wanted, 54, (type, trace) -> Wire.request(type, 0, trace));
    }

    @Sentence("220, 221: 2 3 4 11 32 37 38 49")
    static void fieldsOfPresentments(Check check) {
        int[] wanted = {2, 3, 4, 11, 32, 37, 38, 49};
        justTheseFields(check, 220, wanted, 0, (type, trace) -> Wire.presentment(type, 0, trace));
        justTheseFields(check, 221, wanted, 0, (type, trace) -> Wire.presentment(type, 0, trace));
    }

    @Sentence("400, 401, 420, 421: 2 11 32 37 90, and perhaps 95")
    static void fieldsOfReversals(Check check) {
        int[] wanted = {2, 11, 32, 37, 90};
        int[] types = {400, 401, 420, 421};
        for (int t : types) {
            justTheseFields(check, t, wanted, 95, (type, trace) -> Wire.reversal(type, 0, trace));
        }
    }

    @Sentence("500, 501: 11 32 74 86")
    static void fieldsOfTotals(Check check) {
        int[] wanted = {11, 32, 74, 86};
        justTheseFields(check, 500, wanted, 0, (type, trace) -> Wire.totals(type, 0, trace));
        justTheseFields(check, 501, wanted, 0, (type, trace) -> Wire.totals(type, 0, trace));
    }

    @Sentence("800: 11 70.")
    static void fieldsOfNetworkMessages(Check check) {
        int[] wanted = {11, 70};
        justTheseFields(check, 800, wanted, 0, (type, trace) -> Wire.network(type, trace));
    }

    @Sentence("30: its type is that of an answer, or it has not just these fields")
    static void thirtyIsAheadOfThree(Check check) {
        PaymentSwitch x = Fixture.opened(4);
        check.same("no such acquirer, and a field too much", put(Wire.request(100, 5, 1), 70).send(x), 30);
        Fixture.ask(x, 1, 0, 5);
        check.same("the trace of a kept one, and a field too much", put(Wire.request(100, 0, 1), 70).send(x), 30);
        Fixture.fill(x);
        check.same("a full journal, and a field too much", put(Wire.request(100, 0, 2), 70).send(x), 30);
    }

    // ---- 800 and 3

    @Sentence("800: 0. Else 3: there is no such acquirer.")
    static void networkMessages(Check check) {
        PaymentSwitch x = new PaymentSwitch(4);
        x.open();
        check.same("without acquirers", Wire.network(800, 1).send(x), 0);
        check.same("again", Wire.network(800, 1).send(x), 0);
        check.same("another one with this trace", Wire.network(800, 1).digits(70, "000").send(x), 0);
        check.same("not written", x.count(3), 0);
        check.same("not kept", x.count(1), 0);
        Fixture.fill(x);
        check.same("with a full journal", Wire.network(800, 2).send(x), 0);
        x.checkpoint();
        x.crash(1);
        check.same("with the power about to fail", Wire.network(800, 3).send(x), 0);
        check.no("it does not fail", x.isDown());
    }

    @Sentence("Else 3: there is no such acquirer.")
    static void noSuchAcquirer(Check check) {
        PaymentSwitch x = new PaymentSwitch(4);
        x.open();
        check.same("without acquirers", Wire.totals(500, 0, 1).send(x), 3);
        String[] none = {"2", "9", "00000000002", "99999999999", "4294967296", "4294967297", "02147483648"};
        for (String acquirer : none) {
            PaymentSwitch y = Fixture.opened(4);
            String before = Picture.ofState(y);
            check.same("request of " + acquirer, Wire.request(100, 0, 1).digits(32, acquirer).send(y), 3);
            check.same("totals of " + acquirer, Wire.totals(500, 0, 1).digits(32, acquirer).send(y), 3);
            check.same("advice of " + acquirer, Wire.reversal(420, 0, 1).digits(32, acquirer).send(y), 3);
            check.same("presentment of " + acquirer, Wire.presentment(220, 0, 1).digits(32, acquirer).send(y), 3);
            check.text("nothing changed", Picture.ofState(y), before);
            Fixture.fill(y);
            check.same("with a full journal", Wire.totals(500, 0, 1).digits(32, acquirer).send(y), 3);
        }
    }

    @Sentence("A field of digits is a number, too (0s in front count for nothing in that)")
    static void zerosInFrontOfAnAcquirer(Check check) {
        PaymentSwitch x = Fixture.opened(30);
        check.same("00000000001", Wire.request(100, 0, 1).digits(32, "00000000001").send(x), 0);
        check.same("is acquirer 1", x.payment(1, 6), 1);
        check.text("and answered as it came", Fixture.answerOf(x), Wire.request(110, 0, 1).without(3)
                .digits(32, "00000000001").letters(38, "000001").letters(39, "00").hex());
        check.same("01 has its traces", Wire.request(100, 0, 1).digits(32, "01").send(x), 94);
        check.same("001 has its keys", Wire.request(100, 0, 2).digits(32, "001").letters(37, "000000000001").send(x),
                94);
        check.same("which is written", x.count(3), 2);
    }

    // ---- repeated messages

    @Sentence("REPEATED: an answer is kept for the acquirer, the trace and the type's second digit")
    static void otherAcquirersTracesAndKinds(Check check) {
        PaymentSwitch x = Fixture.opened(30);
        check.same("acquirer 0", Wire.request(100, 0, 5).send(x), 0);
        check.same("acquirer 1", Wire.request(100, 1, 5).send(x), 0);
        check.same("another trace", Wire.request(100, 1, 6).send(x), 0);
        check.same("another kind, 220", Wire.presentment(220, 1, 5).letters(38, "000002").send(x), 0);
        check.same("another kind, 400", Wire.reversal(400, 1, 5).send(x), 12);
        check.same("another kind, 500", Wire.totals(500, 1, 5).send(x), 95);
        check.same("all are kept", x.count(1), 6);
        check.same("acquirer 0 again", Wire.request(101, 0, 5).send(x), 0);
        check.same("acquirer 1 again", Wire.request(101, 1, 5).send(x), 0);
        check.same("another trace again", Wire.request(101, 1, 6).send(x), 0);
        check.same("220 again", Wire.presentment(221, 1, 5).letters(38, "000002").send(x), 0);
        check.same("400 again", Wire.reversal(401, 1, 5).send(x), 12);
        check.same("500 again", Wire.totals(501, 1, 5).send(x), 95);
        check.same("no more are written", x.count(3), 6);
        check.same("no more payments came", x.count(0), 3);
    }

    @Sentence("the type's second digit")
    static void reversalsAndAdvicesAreOneKind(Check check) {
        PaymentSwitch x = Fixture.opened(30);
        check.same("400", Wire.reversal(400, 0, 1).send(x), 25);
        check.same("420 with its trace", Wire.reversal(420, 0, 1).send(x), 94);
        check.same("421 with its trace", Wire.reversal(421, 0, 1).send(x), 94);
        check.same("420", Wire.reversal(420, 0, 2).send(x), 25);
        check.same("400 with its trace", Wire.reversal(400, 0, 2).send(x), 94);
        check.same("421 is the same", Wire.reversal(421, 0, 2).send(x), 25);
        check.same("two are written", x.count(3), 2);
        check.same("one payment came", x.count(0), 1);
    }

    @Sentence("if it was for a message with the same bytes, but for the type's last digit, it is answered again")
    static void answeredAgain(Check check) {
        PaymentSwitch x = Fixture.opened(30);
        Wire.request(101, 0, 1).send(x);
        String first = Fixture.answerOf(x);
        Fixture.undo(x, 1, 2, 0);
        x.block(0, true);
        x.cutoff();
        x.ticks(1000);
        check.same("what became of it is not asked", Wire.request(100, 0, 1).send(x), 0);
        check.text("the answer is the same", Fixture.answerOf(x), first);
        check.same("no payment comes", x.count(0), 0);
        check.same("nothing is held", x.funds(0, 1), 0);
        check.same("no number goes", x.count(4), 2);
    }

    @Sentence("if it was for a message with the same bytes, but for the type's last digit, it is answered again")
    static void refusalsAreAnsweredAgain(Check check) {
        PaymentSwitch x = Fixture.opened(4);
        Wire m = Wire.request(100, 1, 1).digits(4, "000000999999");
        check.same("refused", m.send(x), 51);
        String first = Fixture.answerOf(x);
        Fixture.fill(x);
        check.same("with a full journal", m.send(x), 51);
        check.text("the answer is the same", Fixture.answerOf(x), first);
        x.checkpoint();
        x.crash(1);
        check.same("nothing is written", m.send(x), 51);
        check.no("so nothing fails", x.isDown());
    }

    @Sentence("it is answered again; else 94")
    static void otherBytes(Check check) {
        PaymentSwitch x = Fixture.opened(30);
        Wire.request(100, 0, 1).send(x);
        check.same("MODE", Wire.request(100, 0, 1).digits(3, "000001").send(x), 94);
        check.same("AMOUNT", Wire.request(100, 0, 1).digits(4, "000000000004").send(x), 94);
        check.same("CARD", Wire.request(100, 0, 1).digits(2, "410000000027").send(x), 94);
        check.same("a longer CARD", Wire.request(100, 0, 1).digits(2, "4100000000190").send(x), 94);
        check.same("a CARD of as many bytes", Wire.request(100, 0, 1).digits(2, "10000000019").send(x), 94);
        check.same("ACQUIRER", Wire.request(100, 0, 1).digits(32, "00").send(x), 94);
        check.same("REFERENCE", Wire.request(100, 0, 1).letters(37, "00000000000A").send(x), 94);
        check.same("TERMINAL", Wire.request(100, 0, 1).letters(41, "00000001").send(x), 94);
        check.same("CURRENCY", Wire.request(100, 0, 1).digits(49, "979").send(x), 94);
        check.same("a NOTE more", Wire.request(100, 0, 1).letters(54, "A").send(x), 94);
        check.same("94 is not written", x.count(3), 1);
        check.same("94 is not kept", x.count(1), 1);
        check.same("the first is", Wire.request(100, 0, 1).send(x), 0);
    }

    @Sentence("it is answered again; else 94")
    static void lessBytesOrMore(Check check) {
        PaymentSwitch x = Fixture.opened(30);
        Wire.request(100, 0, 1).letters(54, "AB").send(x);
        check.same("a letter less", Wire.request(100, 0, 1).letters(54, "A").send(x), 94);
        check.same("a letter more", Wire.request(100, 0, 1).letters(54, "ABC").send(x), 94);
        check.same("another letter", Wire.request(100, 0, 1).letters(54, "AC").send(x), 94);
        check.same("no NOTE", Wire.request(100, 0, 1).send(x), 94);
        check.same("the same", Wire.request(101, 0, 1).letters(54, "AB").send(x), 0);
        Wire.reversal(400, 0, 2).send(x);
        check.same("REPLACEMENT more", Wire.reversal(400, 0, 2).digits(95, "000000000000").send(x), 94);
        Wire.totals(500, 0, 3).send(x);
        check.same("another last digit", Wire.totals(500, 0, 3).digits(86, "0000000000000001").send(x), 94);
        check.text("94 has no COUNT", Fixture.answerOf(x), new Wire(510).digits(11, "000003").digits(32, "0")
                .letters(39, "94").hex());
    }

    @Sentence("A field of digits is a number, too (0s in front count for nothing in that)")
    static void leastAndMostTrace(Check check) {
        PaymentSwitch x = Fixture.opened(30);
        check.same("trace 0", Wire.request(100, 0, 0).send(x), 0);
        check.same("trace 999999", Wire.request(100, 0, 999999).send(x), 0);
        check.same("trace 0 again", Wire.request(101, 0, 0).send(x), 0);
        check.same("trace 999999 again", Wire.request(101, 0, 999999).send(x), 0);
        check.same("of the payment", x.payment(2, 7), 999999);
        check.same("of the other", x.payment(1, 7), 0);
    }

    // ---- what is written and kept

    @Sentence("What follows is WRITTEN: one block of the journal")
    static void oneBlockEach(Check check) {
        PaymentSwitch x = Fixture.opened(30);
        int[] due = {0, 13, 25, 25, 25, 0, 12, 0};
        Wire[] sent = {Wire.request(100, 0, 1), Wire.request(100, 0, 2).digits(4, "000000000000"),
            Wire.presentment(220, 0, 3), Wire.reversal(400, 0, 4), Wire.reversal(420, 0, 5),
            Wire.totals(500, 0, 6), Wire.request(100, 0, 7).digits(49, "840"),
            Wire.presentment(221, 0, 8).letters(37, "000000000001")};
        for (int i = 0; i < sent.length; i++) {
            check.same("response " + i, sent[i].send(x), due[i]);
            check.same("blocks used " + i, x.count(2), i + 1);
            check.same("blocks written " + i, x.count(3), i + 1);
            check.same("answers kept " + i, x.count(1), i + 1);
        }
    }

    @Sentence("96, changing nothing, if there is none left")
    static void noBlockIsLeft(Check check) {
        PaymentSwitch x = Fixture.opened(4);
        Fixture.ask(x, 1, 0, 100);
        check.same("blocks were left", Fixture.fill(x), 3);
        String before = Picture.ofState(x);
        Wire[] sent = {Wire.request(100, 0, 2), Wire.request(101, 1, 1), Wire.presentment(220, 0, 1),
            Wire.reversal(400, 0, 1), Wire.reversal(420, 0, 9), Wire.totals(500, 0, 1), Wire.totals(500, 1, 1)};
        for (Wire m : sent) {
            check.same("send " + m.hex(), m.send(x), 96);
            check.yes("it is answered", x.size() > 0);
        }
        check.text("nothing changed", Picture.ofState(x), before);
        x.checkpoint();
        check.same("a block is left then", Wire.request(100, 0, 2).send(x), 0);
    }

    @Sentence("96, changing nothing, if there is none left")
    static void theLastBlock(Check check) {
        PaymentSwitch x = Fixture.opened(4);
        for (int i = 1; i <= 4; i++) {
            check.same("block " + i, Wire.request(100, 0, i).send(x), 0);
        }
        check.same("no block", Wire.request(100, 0, 5).send(x), 96);
        check.text("its answer", Fixture.answerOf(x), Wire.request(110, 0, 5).without(3).letters(39, "96").hex());
        check.same("96 is not kept", x.count(1), 4);
        x.checkpoint();
        check.same("so it is no repeated one", Wire.request(100, 0, 5).send(x), 0);
    }

    private static PaymentSwitch keeping(int answers) {
        PaymentSwitch x = Fixture.opened(30);
        for (int i = 1; i <= answers; i++) {
            total(x, i);
        }
        return x;
    }

    private static int total(PaymentSwitch x, int trace) {
        x.total(0, trace);
        return x.send();
    }

    /** Whether the answer of this trace is kept: another message with it is answered 94 then. */
    private static boolean isKept(PaymentSwitch x, int trace) {
        x.total(0, trace);
        x.digits(74, 99);
        return Fixture.sent(x) == 94;
    }

    @Sentence("The answer is kept, with its message; at most 24 are")
    static void twentyFourAreKept(Check check) {
        PaymentSwitch x = keeping(24);
        check.same("24", x.count(1), 24);
        for (int i = 1; i <= 24; i++) {
            check.yes("answer " + i, isKept(x, i));
            check.same("its message", total(x, i), 0);
        }
        check.same("none was written again", x.count(3), 24);
        total(x, 25);
        check.same("still 24", x.count(1), 24);
    }

    @Sentence("the one that was kept first goes for one more")
    static void theFirstOneGoes(Check check) {
        PaymentSwitch x = keeping(25);
        for (int i = 2; i <= 25; i++) {
            check.yes("answer " + i, isKept(x, i));
        }
        check.no("answer 1", isKept(x, 1));
        check.no("answer 2 went for that", isKept(x, 2));
        check.no("answer 3 went for that", isKept(x, 3));
        check.yes("answer 5", isKept(x, 5));
        check.same("answer 1 is kept anew, for another message", total(x, 1), 94);
        check.same("24", x.count(1), 24);
    }

    @Sentence("the one that was kept first goes for one more")
    static void allGoInTheirOrder(Check check) {
        PaymentSwitch x = keeping(24);
        x.checkpoint();
        for (int i = 25; i <= 49; i++) {
            Fixture.room(x);
            check.yes("the first one of 24 is kept", isKept(x, i - 24));
            total(x, i);
            check.yes("the next one is kept", isKept(x, i - 23));
            check.same("24", x.count(1), 24);
        }
    }

    @Sentence("(to be answered again does not make it later)")
    static void answeredAgainIsNotLater(Check check) {
        PaymentSwitch x = keeping(24);
        check.same("the first one again", Wire.totals(501, 0, 1).send(x), 0);
        check.same("and again", total(x, 1), 0);
        total(x, 25);
        check.yes("the second one is kept", isKept(x, 2));
        check.no("the first one went", isKept(x, 1));
    }

    @Sentence("the one that was kept first goes for one more")
    static void whoGoesFirstBehindRecovery(Check check) {
        PaymentSwitch x = keeping(26);
        x.checkpoint();
        total(x, 27);
        x.crash(0);
        x.recover();
        check.yes("answer 4", isKept(x, 4));
        total(x, 28);
        check.yes("answer 5", isKept(x, 5));
        check.no("answer 4 went", isKept(x, 4));
    }
}
