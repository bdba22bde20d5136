/** Sentences on edges of the draft and of messages that are built: promises 9 to 19. */
public final class EdgeDraftTest {
    private static final int[] WITH_DIGITS = {2, 3, 4, 11, 32, 49, 70, 74, 86, 90, 95};
    private static final int[] WITH_LETTERS = {37, 38, 39, 41, 54};
    private static final long MOST_AMOUNT = 999999999999L;

    public static void main(String[] args) throws Exception {
        Sentences.run(EdgeDraftTest.class);
    }

    private static String composed(PaymentSwitch x) {
        x.compose();
        return Fixture.tapeOf(x);
    }

    // ---- promise 9

    @Sentence("THE DRAFT has a type and fields, at first 800 and none")
    static void firstDraft(Check check) {
        check.text("composed", composed(new PaymentSwitch(4)), new Wire(800).hex());
    }

    @Sentence("The draft has this type (0 .. 9999), and no fields. Illegal argument.")
    static void types(Check check) {
        PaymentSwitch x = new PaymentSwitch(4);
        x.digits(11, 5);
        int[] out = {-1, 10000, Integer.MIN_VALUE, Integer.MAX_VALUE};
        for (int type : out) {
            check.badArgument("type " + type, () -> x.message(type));
        }
        check.text("nothing changed", composed(x), new Wire(800).digits(11, "000005").hex());
        int[] in = {0, 1, 9, 10, 99, 100, 999, 1000, 9999};
        for (int type : in) {
            x.digits(11, 5);
            x.digits(70, 5);
            x.message(type);
            check.text("type " + type, composed(x), new Wire(type).hex());
        }
    }

    // ---- promise 10

    @Sentence("of 2 and 32 as many digits as v has")
    static void asManyDigitsAsItHas(Check check) {
        String digits = "";
        for (int n = 1; n <= 18; n++) {
            PaymentSwitch x = new PaymentSwitch(4);
            digits += n % 10;
            x.message(100);
            x.digits(2, Long.parseLong(digits));
            if (n <= 11) {
                x.digits(32, Long.parseLong(digits));
                check.text("both of " + n, composed(x), new Wire(100).digits(2, digits).digits(32, digits).hex());
            } else {
                check.text("CARD of " + n, composed(x), new Wire(100).digits(2, digits).hex());
            }
        }
        PaymentSwitch x = new PaymentSwitch(4);
        x.digits(2, Long.MAX_VALUE);
        check.text("CARD of 19", composed(x), new Wire(800).digits(2, String.valueOf(Long.MAX_VALUE)).hex());
    }

    @Sentence("of 2 and 32 as many digits as v has")
    static void zeroHasOneDigit(Check check) {
        PaymentSwitch x = new PaymentSwitch(4);
        x.digits(2, 0);
        x.digits(32, 0);
        check.text("both", composed(x), new Wire(800).digits(2, "0").digits(32, "0").hex());
    }

    @Sentence("of 90 the last of its 42, behind 0s")
    static void lastOfFortyTwo(Check check) {
        PaymentSwitch x = new PaymentSwitch(4);
        x.original(9999, 999999, 99999);
        long[] values = {0, 7, Long.MAX_VALUE};
        for (long v : values) {
            x.digits(90, v);
            String last = String.valueOf(v);
            check.text("ORIGINAL of " + v, composed(x),
                    new Wire(800).digits(90, "0".repeat(42 - last.length()) + last).hex());
        }
    }

    @Sentence("A field of the draft with so many digits: v, with 0s in front")
    static void zerosInFront(Check check) {
        int[] fields = {3, 4, 11, 49, 70, 74, 86, 95};
        int[] lengths = {6, 12, 6, 3, 3, 10, 16, 12};
        for (int i = 0; i < fields.length; i++) {
            PaymentSwitch x = new PaymentSwitch(4);
            String most = "9".repeat(lengths[i]);
            x.digits(fields[i], Long.parseLong(most));
            check.text("most of " + fields[i], composed(x), new Wire(800).digits(fields[i], most).hex());
            x.digits(fields[i], 0);
            check.text("least of " + fields[i], composed(x),
                    new Wire(800).digits(fields[i], "0".repeat(lengths[i])).hex());
            x.digits(fields[i], 1);
            check.text("1 of " + fields[i], composed(x),
                    new Wire(800).digits(fields[i], "0".repeat(lengths[i] - 1) + "1").hex());
        }
    }

    @Sentence("Illegal argument: the field has no digits")
    static void fieldsWithoutDigits(Check check) {
        PaymentSwitch x = new PaymentSwitch(4);
        for (int field = -2; field <= 130; field++) {
            int f = field;
            if (Fixture.isIn(field, WITH_DIGITS)) {
                x.digits(field, 1);
                check.yes("field " + field, x.omit(field));
            } else {
                check.badArgument("field " + field, () -> x.digits(f, 1));
            }
        }
        check.badArgument("least field", () -> x.digits(Integer.MIN_VALUE, 1));
        check.badArgument("most field", () -> x.digits(Integer.MAX_VALUE, 1));
        check.text("nothing changed", composed(x), new Wire(800).hex());
    }

    @Sentence("or v is below 0")
    static void digitsBelowZero(Check check) {
        PaymentSwitch x = new PaymentSwitch(4);
        for (int field : WITH_DIGITS) {
            check.badArgument("-1 of " + field, () -> x.digits(field, -1));
            check.badArgument("least long of " + field, () -> x.digits(field, Long.MIN_VALUE));
            check.no("nothing changed", x.omit(field));
        }
    }

    @Sentence("or has more than the field can have")
    static void moreDigitsThanTheFieldCanHave(Check check) {
        PaymentSwitch x = new PaymentSwitch(4);
        int[] fields = {3, 4, 11, 32, 49, 70, 74, 86, 95};
        int[] lengths = {6, 12, 6, 11, 3, 3, 10, 16, 12};
        for (int i = 0; i < fields.length; i++) {
            int field = fields[i];
            long above = Long.parseLong("1" + "0".repeat(lengths[i]));
            check.badArgument("one digit more of " + field, () -> x.digits(field, above));
            check.badArgument("most long of " + field, () -> x.digits(field, Long.MAX_VALUE));
            check.no("nothing changed", x.omit(field));
            x.digits(field, above - 1);
            check.yes("as many of " + field, x.omit(field));
        }
    }

    // ---- promise 11

    @Sentence("(of 54 with n of them, of others as many as it has, n being 0)")
    static void asManyLettersAsItHas(Check check) {
        int[] fields = {37, 38, 39, 41};
        int[] lengths = {12, 6, 2, 8};
        for (int i = 0; i < fields.length; i++) {
            PaymentSwitch x = new PaymentSwitch(4);
            x.letters(fields[i], 0, 0);
            check.text("field " + fields[i], composed(x),
                    new Wire(800).letters(fields[i], "0".repeat(lengths[i])).hex());
        }
        for (int n = 40; n >= 1; n--) {
            PaymentSwitch x = new PaymentSwitch(4);
            x.letters(54, 0, 20);
            x.letters(54, 0, n);
            check.text("NOTE of " + n, composed(x), new Wire(800).letters(54, "0".repeat(n)).hex());
        }
    }

    @Sentence("letter k is number ((v >> 5 (k modulo 12)) & 31) of 0 .. 9, A .. Z")
    static void lettersComeAgainBehindTwelve(Check check) {
        PaymentSwitch x = new PaymentSwitch(4);
        long v = 1 | 9L << 5 | 10L << 10 | 31L << 55;
        x.letters(54, v, 12);
        check.text("twelve", composed(x), new Wire(800).letters(54, "19A00000000V").hex());
        x.letters(54, v, 13);
        check.text("thirteen", composed(x), new Wire(800).letters(54, "19A00000000V1").hex());
        x.letters(54, v, 40);
        check.text("forty", composed(x),
                new Wire(800).letters(54, "19A00000000V19A00000000V19A00000000V19A0").hex());
    }

    @Sentence("letter k is number ((v >> 5 (k modulo 12)) & 31) of 0 .. 9, A .. Z")
    static void lettersAreFiveBitsEach(Check check) {
        PaymentSwitch x = new PaymentSwitch(4);
        x.letters(37, -1, 0);
        check.text("-1", composed(x), new Wire(800).letters(37, "V".repeat(12)).hex());
        x.letters(37, 15L << 60, 0);
        check.text("bits above all letters", composed(x), new Wire(800).letters(37, "0".repeat(12)).hex());
        x.letters(37, Long.MIN_VALUE, 0);
        check.text("least long", composed(x), new Wire(800).letters(37, "0".repeat(12)).hex());
        for (int k = 0; k < 12; k++) {
            x.letters(37, 31L << 5 * k, 0);
            check.text("letter " + k, composed(x),
                    new Wire(800).letters(37, "0".repeat(k) + "V" + "0".repeat(11 - k)).hex());
        }
    }

    @Sentence("letter k is number ((v >> 5 (k modulo 12)) & 31) of 0 .. 9, A .. Z")
    static void everyLetter(Check check) {
        for (int i = 0; i < 32; i++) {
            PaymentSwitch x = new PaymentSwitch(4);
            x.letters(37, i, 0);
            check.text("number " + i, composed(x),
                    new Wire(800).letters(37, "0123456789ABCDEFGHIJKLMNOPQRSTUV".charAt(i) + "0".repeat(11)).hex());
        }
    }

    @Sentence("Illegal argument: the field has no letters")
    static void fieldsWithoutLetters(Check check) {
        PaymentSwitch x = new PaymentSwitch(4);
        for (int field = -2; field <= 130; field++) {
            int f = field;
            if (Fixture.isIn(field, WITH_LETTERS)) {
                x.letters(field, 1, field == 54 ? 1 : 0);
                check.yes("field " + field, x.omit(field));
            } else {
                check.badArgument("field " + field, () -> x.letters(f, 1, 0));
                check.badArgument("field " + field + " with n", () -> x.letters(f, 1, 1));
            }
        }
        check.text("nothing changed", composed(x), new Wire(800).hex());
    }

    @Sentence("n is not 0, or of 54 not 1 .. 40")
    static void howManyLetters(Check check) {
        PaymentSwitch x = new PaymentSwitch(4);
        int[] wrong = {-1, 1, 2, 12, 40, Integer.MIN_VALUE, Integer.MAX_VALUE};
        int[] fixed = {37, 38, 39, 41};
        for (int field : fixed) {
            for (int n : wrong) {
                check.badArgument(n + " of " + field, () -> x.letters(field, 0, n));
            }
        }
        int[] wrongNotes = {0, -1, 41, Integer.MIN_VALUE, Integer.MAX_VALUE};
        for (int n : wrongNotes) {
            check.badArgument(n + " of 54", () -> x.letters(54, 0, n));
        }
        check.text("nothing changed", composed(x), new Wire(800).hex());
    }

    // ---- promises 12 to 15

    @Sentence("APPROVAL of the draft is that of a payment's number. Illegal argument: it is not 0 .. 10^9.")
    static void approvals(Check check) {
        PaymentSwitch x = new PaymentSwitch(4);
        int[] out = {-1, 1000000001, Integer.MIN_VALUE, Integer.MAX_VALUE};
        for (int number : out) {
            check.badArgument("number " + number, () -> x.approval(number));
        }
        check.no("nothing changed", x.omit(38));
        int[] in = {0, 1, 35, 36, 1295, 1296, 46655, 46656, 1679615, 1679616, 60466175, 60466176, 1000000000};
        String[] due = {"000000", "000001", "00000Z", "000010", "0000ZZ", "000100", "000ZZZ", "001000", "00ZZZZ",
            "010000", "0ZZZZZ", "100000", "GJDGXS"};
        for (int i = 0; i < in.length; i++) {
            x.approval(in[i]);
            check.text("number " + in[i], composed(x), new Wire(800).letters(38, due[i]).hex());
        }
    }

    @Sentence("ORIGINAL of the draft: a type, a trace, 10 zeros, an acquirer in 11 digits, 11 zeros. Illegal argument: they "
            + "are not 0 .. 9999, 0 .. 999999, 0 .. 99999.")
    static void originals(Check check) {
        PaymentSwitch x = new PaymentSwitch(4);
        int[] far = {-1, Integer.MIN_VALUE, Integer.MAX_VALUE};
        for (int v : far) {
            check.badArgument("type " + v, () -> x.original(v, 0, 0));
            check.badArgument("trace " + v, () -> x.original(0, v, 0));
            check.badArgument("acquirer " + v, () -> x.original(0, 0, v));
        }
        check.badArgument("type 10000", () -> x.original(10000, 0, 0));
        check.badArgument("trace 1000000", () -> x.original(0, 1000000, 0));
        check.badArgument("acquirer 100000", () -> x.original(0, 0, 100000));
        check.no("nothing changed", x.omit(90));
        x.original(9999, 999999, 99999);
        check.text("the most", composed(x), new Wire(800)
                .digits(90, "9999" + "999999" + "0000000000" + "00000099999" + "00000000000").hex());
        x.original(0, 0, 0);
        check.text("the least", composed(x), new Wire(800).digits(90, "0".repeat(42)).hex());
        x.original(1, 2, 3);
        check.text("with 0s in front", composed(x), new Wire(800)
                .digits(90, "0001" + "000002" + "0000000000" + "00000000003" + "00000000000").hex());
    }

    @Sentence("A field goes from the draft: whether it was there. Illegal argument: it is not known.")
    static void omissions(Check check) {
        PaymentSwitch x = new PaymentSwitch(4);
        for (int field = -2; field <= 130; field++) {
            int f = field;
            if (!Fixture.isIn(field, Fixture.KNOWN_FIELDS)) {
                check.badArgument("field " + field, () -> x.omit(f));
                continue;
            }
            check.no("field " + field + " was not there", x.omit(field));
            put(x, field);
            check.yes("field " + field + " was there", x.omit(field));
            check.no("field " + field + " went", x.omit(field));
        }
        check.badArgument("least field", () -> x.omit(Integer.MIN_VALUE));
        check.badArgument("most field", () -> x.omit(Integer.MAX_VALUE));
    }

    private static void put(PaymentSwitch x, int field) {
        if (Fixture.isIn(field, WITH_DIGITS)) {
            x.digits(field, 1);
        } else {
            x.letters(field, 1, field == 54 ? 1 : 0);
        }
    }

    @Sentence("A field goes from the draft: whether it was there.")
    static void otherFieldsStay(Check check) {
        for (int gone : Fixture.KNOWN_FIELDS) {
            PaymentSwitch x = new PaymentSwitch(4);
            for (int field : Fixture.KNOWN_FIELDS) {
                put(x, field);
            }
            x.omit(gone);
            for (int field : Fixture.KNOWN_FIELDS) {
                check.same("field " + field + " without " + gone, x.omit(field) ? 1 : 0, field == gone ? 0 : 1);
            }
        }
    }

    @Sentence("The tape becomes the draft, as a message: how many bytes it has. (The draft stays.)")
    static void longestAndShortest(Check check) {
        PaymentSwitch x = new PaymentSwitch(4);
        for (int i = 0; i < 400; i++) {
            x.feed(255);
        }
        check.same("no fields", x.compose(), 10);
        check.text("instead of a full tape", Fixture.tapeOf(x), new Wire(800).hex());
        for (int field : Fixture.KNOWN_FIELDS) {
            put(x, field);
        }
        x.digits(2, Long.MAX_VALUE);
        x.digits(32, 99999999999L);
        x.letters(54, 0, 40);
        check.same("all fields, the longest", x.compose(), 162);
        check.same("it has no fault", x.fault(0), 0);
        x.trim(162);
        check.same("the draft stays", x.compose(), 162);
        check.same("all is on the tape", x.trim(0), 162);
    }

    @Sentence("The tape becomes the draft, as a message: how many bytes it has. (The draft stays.)")
    static void secondMapGoesWithItsLastField(Check check) {
        PaymentSwitch x = new PaymentSwitch(4);
        x.letters(54, 0, 1);
        check.same("field 54", x.compose(), 10 + 3);
        x.digits(70, 1);
        check.same("field 70", x.compose(), 18 + 3 + 2);
        x.omit(54);
        check.same("field 70 alone", x.compose(), 18 + 2);
        check.text("its maps", Fixture.tapeOf(x), "0800 8000000000000000 0400000000000000 0001");
        x.omit(70);
        check.text("no field", composed(x), "0800 0000000000000000");
    }

    // ---- promise 16

    @Sentence("Illegal argument: there is no such card")
    static void askForNoCard(Check check) {
        PaymentSwitch x = new PaymentSwitch(4);
        check.badArgument("without cards", () -> x.ask(0, 0, 0, 0, 0, 0, 0));
        PaymentSwitch y = Fixture.told(4);
        int[] none = {-1, 5, 100, Integer.MIN_VALUE, Integer.MAX_VALUE};
        for (int card : none) {
            check.badArgument("card " + card, () -> y.ask(0, 0, 0, card, 0, 0, 0));
        }
        check.same("the first", y.ask(0, 0, 0, 0, 0, 0, 0), 53);
        check.same("the last", y.ask(0, 0, 0, 4, 0, 0, 0), 53);
    }

    @Sentence("mode, amount, trace or acquirer are below 0, or have more digits than their fields")
    static void askOutOfBounds(Check check) {
        PaymentSwitch x = Fixture.told(4);
        int[] far = {-1, Integer.MIN_VALUE};
        for (int v : far) {
            check.badArgument("mode " + v, () -> x.ask(0, 0, 0, 0, 0, v, 0));
            check.badArgument("amount " + v, () -> x.ask(0, 0, 0, 0, v, 0, 0));
            check.badArgument("trace " + v, () -> x.ask(0, 0, v, 0, 0, 0, 0));
            check.badArgument("acquirer " + v, () -> x.ask(0, v, 0, 0, 0, 0, 0));
        }
        int[] above = {1000000, Integer.MAX_VALUE};
        for (int v : above) {
            check.badArgument("mode " + v, () -> x.ask(0, 0, 0, 0, 0, v, 0));
            check.badArgument("trace " + v, () -> x.ask(0, 0, v, 0, 0, 0, 0));
        }
        check.badArgument("amount of 13 digits", () -> x.ask(0, 0, 0, 0, MOST_AMOUNT + 1, 0, 0));
        check.badArgument("most long", () -> x.ask(0, 0, 0, 0, Long.MAX_VALUE, 0, 0));
        check.badArgument("least long", () -> x.ask(0, 0, 0, 0, Long.MIN_VALUE, 0, 0));
    }

    @Sentence("again is not 0 or 1")
    static void askAgain(Check check) {
        PaymentSwitch x = Fixture.told(4);
        int[] out = {-1, 2, Integer.MIN_VALUE, Integer.MAX_VALUE};
        for (int again : out) {
            check.badArgument("again " + again, () -> x.ask(again, 0, 0, 0, 0, 0, 0));
        }
        x.ask(0, 0, 0, 0, 0, 0, 0);
        check.same("100", x.spoil(1, 0), 0x00);
        x.ask(1, 0, 0, 0, 0, 0, 0);
        check.same("101", x.spoil(1, 0), 0x01);
    }

    @Sentence("reference is below 0")
    static void askWithReferences(Check check) {
        PaymentSwitch x = Fixture.told(4);
        check.badArgument("-1", () -> x.ask(0, 0, 0, 0, 0, 0, -1));
        check.badArgument("least int", () -> x.ask(0, 0, 0, 0, 0, 0, Integer.MIN_VALUE));
        x.ask(0, 0, 0, 0, 0, 0, Integer.MAX_VALUE);
        check.text("most int", Fixture.tapeOf(x), asked(100, "410000000019", 0, 0, "0", 0, "002147483647").hex());
    }

    private static Wire asked(int type, String card, int mode, long amount, String acquirer, int trace,
            String reference) {
        return new Wire(type).digits(2, card).digits(3, String.format("%06d", mode))
                .digits(4, String.format("%012d", amount)).digits(11, String.format("%06d", trace))
                .digits(32, acquirer).letters(37, reference).letters(41, "00000000").digits(49, "978");
    }

    @Sentence("CARD of a card, MODE, AMOUNT, TRACE, ACQUIRER (in as few digits as it has), REFERENCE in 12 digits, "
            + "TERMINAL of eight 0s, CURRENCY 978; how many bytes")
    static void askLeastAndMost(Check check) {
        PaymentSwitch x = Fixture.told(4);
        check.same("the least", x.ask(0, 0, 0, 0, 0, 0, 0), 53);
        check.text("the least", Fixture.tapeOf(x), asked(100, "410000000019", 0, 0, "0", 0, "000000000000").hex());
        check.same("the most", x.ask(1, Integer.MAX_VALUE, 999999, 3, MOST_AMOUNT, 999999, Integer.MAX_VALUE), 60);
        check.text("the most", Fixture.tapeOf(x),
                asked(101, "419900000000007776", 999999, MOST_AMOUNT, "2147483647", 999999, "002147483647").hex());
        x.ask(0, 10, 1, 0, 1, 1, 1);
        check.text("an acquirer of two digits", Fixture.tapeOf(x),
                asked(100, "410000000019", 1, 1, "10", 1, "000000000001").hex());
    }

    @Sentence("The draft becomes a message of type 100 (or 101), and the tape that")
    static void nothingStaysOfTheDraftBefore(Check check) {
        PaymentSwitch x = Fixture.opened(30);
        Fixture.ask(x, 1, 0, 5);
        for (int way = 0; way < 4; way++) {
            x.message(123);
            for (int field : Fixture.KNOWN_FIELDS) {
                put(x, field);
            }
            int n = way == 0 ? x.ask(0, 0, 0, 0, 0, 0, 0) : way == 1 ? x.present(1, 0, 0, 0)
                    : way == 2 ? x.undo(1, true, 0, 0) : x.total(0, 0);
            int[] due = {53, 51, 63, 36};
            check.same("bytes " + way, n, due[way]);
            check.same("the tape has them", x.trim(0), n);
            check.same("so has the draft", x.compose(), n);
        }
    }

    // ---- promises 17 and 18

    @Sentence("Illegal argument: there is no such payment, or likewise; illegal state.")
    static void presentNoPayment(Check check) {
        PaymentSwitch x = Fixture.opened(30);
        Fixture.ask(x, 1, 0, 1);
        Fixture.ask(x, 2, 0, 1);
        Fixture.undo(x, 1, 3, 0);
        x.cutoff();
        int[] none = {-1, 0, 1, 3, Integer.MIN_VALUE, Integer.MAX_VALUE};
        for (int number : none) {
            check.badArgument("present " + number, () -> x.present(number, 0, 0, 0));
            check.badArgument("undo " + number, () -> x.undo(number, false, 0, 0));
        }
        check.same("present 2", x.present(2, 0, 0, 0), 51);
        check.same("undo 2", x.undo(2, false, 0, 0), 63);
    }

    @Sentence("Illegal argument: there is no such payment, or likewise; illegal state.")
    static void presentOutOfBounds(Check check) {
        PaymentSwitch x = Fixture.opened(30);
        Fixture.ask(x, 1, 0, 1);
        int[] far = {-1, 1000000, Integer.MIN_VALUE, Integer.MAX_VALUE};
        for (int v : far) {
            check.badArgument("trace " + v, () -> x.present(1, v, 0, 0));
            check.badArgument("mode " + v, () -> x.present(1, 0, 0, v));
        }
        long[] amounts = {-1, MOST_AMOUNT + 1, Long.MIN_VALUE, Long.MAX_VALUE};
        for (long amount : amounts) {
            check.badArgument("amount " + amount, () -> x.present(1, 0, amount, 0));
        }
        check.same("the most", x.present(1, 999999, MOST_AMOUNT, 999999), 51);
        check.text("the most", Fixture.tapeOf(x), new Wire(220).digits(2, "410000000019").digits(3, "999999")
                .digits(4, "999999999999").digits(11, "999999").digits(32, "0").letters(37, "000000000001")
                .letters(38, "000001").digits(49, "978").hex());
        x.present(1, 0, 0, 0);
        check.text("the least", Fixture.tapeOf(x), new Wire(220).digits(2, "410000000019").digits(3, "000000")
                .digits(4, "000000000000").digits(11, "000000").digits(32, "0").letters(37, "000000000001")
                .letters(38, "000001").digits(49, "978").hex());
    }

    @Sentence("its CARD and REFERENCE as they came, ACQUIRER in as few digits as it has, APPROVAL by its NUMBER")
    static void presentAsItCame(Check check) {
        PaymentSwitch x = Fixture.opened(30);
        Wire.reversal(420, 1, 7).digits(2, "0").digits(32, "00000000001").letters(37, "ZZZZZZZZZZZZ").send(x);
        x.present(1, 5, 6, 7);
        check.text("one digit", Fixture.tapeOf(x), new Wire(220).digits(2, "0").digits(3, "000007")
                .digits(4, "000000000006").digits(11, "000005").digits(32, "1").letters(37, "ZZZZZZZZZZZZ")
                .letters(38, "000001").digits(49, "978").hex());
        Wire.reversal(420, 1, 8).digits(2, "0".repeat(18) + "9").letters(37, "00000000000A").send(x);
        x.undo(2, false, 5, 0);
        check.text("nineteen digits", Fixture.tapeOf(x), new Wire(400).digits(2, "0".repeat(18) + "9")
                .digits(11, "000005").digits(32, "1").letters(37, "00000000000A")
                .digits(90, "0100" + "000008" + "0000000000" + "00000000001" + "00000000000").hex());
    }

    @Sentence("ORIGINAL of 100 and its TRACE; REPLACEMENT if left is above 0. Illegal argument: likewise (left below 0, "
            + "or of more than 12 digits)")
    static void undoOutOfBounds(Check check) {
        PaymentSwitch x = Fixture.opened(30);
        Fixture.ask(x, 999999, 0, 1);
        int[] far = {-1, 1000000, Integer.MIN_VALUE, Integer.MAX_VALUE};
        for (int v : far) {
            check.badArgument("trace " + v, () -> x.undo(1, true, v, 0));
        }
        long[] lefts = {-1, MOST_AMOUNT + 1, Long.MIN_VALUE, Long.MAX_VALUE};
        for (long left : lefts) {
            check.badArgument("left " + left, () -> x.undo(1, true, 0, left));
        }
        Wire due = new Wire(420).digits(2, "410000000019").digits(11, "999999").digits(32, "0")
                .letters(37, "000000999999")
                .digits(90, "0100" + "999999" + "0000000000" + "00000000000" + "00000000000");
        x.undo(1, true, 999999, 0);
        check.text("left 0", Fixture.tapeOf(x), due.hex());
        x.undo(1, true, 999999, 1);
        check.text("left 1", Fixture.tapeOf(x), due.digits(95, "000000000001").hex());
        x.undo(1, true, 999999, MOST_AMOUNT);
        check.text("the most", Fixture.tapeOf(x), due.digits(95, "999999999999").hex());
    }

    @Sentence("calls of a payment are illegal state, behind what else of their arguments is out of its bounds")
    static void presentAndUndoWhenDown(Check check) {
        PaymentSwitch x = Fixture.opened(30);
        Fixture.ask(x, 1, 0, 1);
        x.crash(0);
        int[] numbers = {1, 0, -1, 2, Integer.MIN_VALUE, Integer.MAX_VALUE};
        for (int number : numbers) {
            check.badState("present " + number, () -> x.present(number, 0, 0, 0));
            check.badState("undo " + number, () -> x.undo(number, false, 0, 0));
            check.badArgument("present, trace", () -> x.present(number, 1000000, 0, 0));
            check.badArgument("present, amount", () -> x.present(number, 0, MOST_AMOUNT + 1, 0));
            check.badArgument("present, mode", () -> x.present(number, 0, 0, 1000000));
            check.badArgument("undo, trace", () -> x.undo(number, false, -1, 0));
            check.badArgument("undo, left", () -> x.undo(number, false, 0, MOST_AMOUNT + 1));
        }
    }

    @Sentence("There is no payment in the TABLE.")
    static void presentAndUndoInTheTable(Check check) {
        PaymentSwitch x = Fixture.told(30);
        check.badArgument("present", () -> x.present(1, 0, 0, 0));
        check.badArgument("undo", () -> x.undo(1, false, 0, 0));
        check.badArgument("present 0", () -> x.present(0, 0, 0, 0));
        check.badArgument("undo 0", () -> x.undo(0, true, 0, 0));
    }

    // ---- promise 19

    @Sentence("Illegal argument: there is no such acquirer, or likewise; illegal state.")
    static void totalOutOfBounds(Check check) {
        PaymentSwitch x = Fixture.told(30);
        for (int state = 0; state < 3; state++) {
            int[] none = {-1, 2, 6, Integer.MIN_VALUE, Integer.MAX_VALUE};
            for (int acquirer : none) {
                check.badArgument("acquirer " + acquirer, () -> x.total(acquirer, 0));
            }
            int[] traces = {-1, 1000000, Integer.MIN_VALUE, Integer.MAX_VALUE};
            for (int trace : traces) {
                check.badArgument("trace " + trace, () -> x.total(0, trace));
            }
            if (state != 1) {
                check.badState("not OPEN", () -> x.total(0, 0));
            } else {
                check.same("the first", x.total(0, 0), 36);
                check.same("the last", x.total(1, 999999), 36);
            }
            if (state == 0) {
                x.open();
            } else if (state == 1) {
                x.crash(0);
            }
        }
    }

    @Sentence("for an acquirer: COUNT and SUM of its batch")
    static void totalOfAnEmptyBatch(Check check) {
        PaymentSwitch x = Fixture.opened(30);
        Fixture.done(x, 10);
        x.total(1, 999999);
        check.text("empty", Fixture.tapeOf(x), Wire.totals(500, 1, 999999).hex());
        x.total(0, 3);
        check.text("of one", Fixture.tapeOf(x), Wire.totals(500, 0, 3).digits(74, "0000000001")
                .digits(86, "0000000000000010").hex());
        x.send();
        x.total(0, 4);
        check.text("emptied", Fixture.tapeOf(x), Wire.totals(500, 0, 4).hex());
    }

    @Sentence("for an acquirer: COUNT and SUM of its batch")
    static void totalOfLargeAmounts(Check check) {
        PaymentSwitch x = Fixture.single(0, 0, 1000000000000L, -1000000000000L);
        for (int i = 1; i <= 2; i++) {
            check.same("request", Fixture.ask(x, i, 0, MOST_AMOUNT), 0);
            check.same("presentment", Fixture.present(x, i, i, MOST_AMOUNT, 0), 0);
        }
        x.total(0, 5);
        check.text("more than 12 digits", Fixture.tapeOf(x), Wire.totals(500, 0, 5).digits(74, "0000000002")
                .digits(86, "0001999999999998").hex());
        check.same("is answered", x.send(), 0);
    }

    // ---- all of them

    @Sentence("a call that throws changes nothing")
    static void refusedCallsLeaveDraftAndTape(Check check) {
        PaymentSwitch x = Fixture.opened(30);
        Fixture.ask(x, 1, 0, 1);
        x.message(123);
        for (int field : Fixture.KNOWN_FIELDS) {
            put(x, field);
        }
        String draft = composed(x);
        x.trim(7);
        String tape = Fixture.tapeOf(x);
        check.badArgument("message", () -> x.message(10000));
        check.badArgument("digits", () -> x.digits(4, MOST_AMOUNT + 1));
        check.badArgument("letters", () -> x.letters(54, 7, 41));
        check.badArgument("approval", () -> x.approval(-1));
        check.badArgument("original", () -> x.original(5, 5, 100000));
        check.badArgument("omit", () -> x.omit(1));
        check.badArgument("ask", () -> x.ask(0, 0, 0, 0, 0, 0, -1));
        check.badArgument("present", () -> x.present(2, 0, 0, 0));
        check.badArgument("undo", () -> x.undo(2, true, 0, 0));
        check.badArgument("total", () -> x.total(2, 0));
        x.crash(0);
        check.badState("present when DOWN", () -> x.present(1, 0, 0, 0));
        check.badState("undo when DOWN", () -> x.undo(1, true, 0, 0));
        check.badState("total when DOWN", () -> x.total(0, 0));
        check.text("the tape", Fixture.tapeOf(x), tape);
        check.text("the draft", composed(x), draft);
    }

    @Sentence("(those that name none are done in all states)")
    static void draftsInAllStates(Check check) {
        PaymentSwitch x = Fixture.told(30);
        for (int state = 0; state < 3; state++) {
            x.message(100);
            x.digits(11, 5);
            x.letters(41, 0, 0);
            x.approval(36);
            x.original(1, 2, 3);
            check.yes("omit", x.omit(41));
            check.same("compose", x.compose(), 18 + 3 + 6 + 21);
            check.same("ask", x.ask(0, 0, 0, 0, 0, 0, 0), 53);
            if (state == 0) {
                x.open();
            } else if (state == 1) {
                x.crash(0);
            }
        }
    }
}
