/** Sentences on edges of the tape and its faults: part 2 and promises 20 to 23. */
public final class EdgeTapeTest {
    private static final int SHORT = 1;
    private static final int DIGIT = 2;
    private static final int TYPE = 3;
    private static final int MAP = 4;
    private static final int LENGTH = 5;
    private static final int LETTER = 6;
    private static final int BEHIND = 7;
    private static final String CARD_ALONE = "0800 4000000000000000";
    private static final String TRACE_ALONE = "0800 0020000000000000";
    private static final String ACQUIRER_ALONE = "0800 0000000100000000";
    private static final String RESPONSE_ALONE = "0800 0000000002000000";
    private static final String CURRENCY_ALONE = "0800 0000000000008000";
    private static final String NOTE_ALONE = "0800 0000000000000400";

    public static void main(String[] args) throws Exception {
        Sentences.run(EdgeTapeTest.class);
    }

    private static void fault(Check check, String hex, int kind, int place) {
        PaymentSwitch x = new PaymentSwitch(4);
        Fixture.tape(x, hex);
        check.same("kind of " + hex, x.fault(0), kind);
        check.same("place of " + hex, x.fault(1), place);
    }

    private static void noFault(Check check, String hex) {
        fault(check, hex, 0, PaymentSwitch.NONE);
    }

    // ---- promises 20 to 23

    @Sentence("A byte comes behind the tape: how many it has. Illegal argument: b is not 0 .. 255")
    static void bytes(Check check) {
        for (int front = 0; front < 256; front += 64) {
            PaymentSwitch x = new PaymentSwitch(4);
            int[] out = {-1, 256, -256, Integer.MIN_VALUE, Integer.MAX_VALUE};
            for (int b : out) {
                check.badArgument("byte " + b, () -> x.feed(b));
            }
            check.same("nothing came", x.trim(0), 0);
            for (int i = 0; i < 64; i++) {
                check.same("bytes", x.feed(front + i), i + 1);
                check.same("byte", x.spoil(i, 0), front + i);
            }
        }
    }

    @Sentence("THE TAPE has bytes, 400 at most.")
    static void fourHundredBytes(Check check) {
        PaymentSwitch x = new PaymentSwitch(4);
        for (int i = 1; i <= 400; i++) {
            check.same("bytes", x.feed(i & 255), i);
        }
        for (int i = 1; i <= 400; i += 7) {
            check.same("byte " + (i - 1), x.spoil(i - 1, 0), i & 255);
        }
        check.same("the last byte", x.spoil(399, 0), 400 & 255);
    }

    @Sentence("b is not 0 .. 255; illegal state: it has 400.")
    static void byteFourHundredAndOne(Check check) {
        PaymentSwitch x = new PaymentSwitch(4);
        for (int i = 0; i < 399; i++) {
            x.feed(1);
        }
        check.same("byte 400", x.feed(2), 400);
        check.badState("byte 401", () -> x.feed(3));
        check.badArgument("the argument is asked first", () -> x.feed(256));
        check.same("nothing changed", x.spoil(399, 0), 2);
        check.same("one goes", x.trim(1), 399);
        check.same("one comes", x.feed(3), 400);
        check.badState("byte 401 again", () -> x.feed(4));
    }

    @Sentence("The last n bytes of the tape go: how many it has. Illegal argument: n is below 0, or more than there are.")
    static void trims(Check check) {
        PaymentSwitch x = new PaymentSwitch(4);
        check.same("none of none", x.trim(0), 0);
        check.badArgument("one of none", () -> x.trim(1));
        for (int i = 0; i < 5; i++) {
            x.feed(i);
        }
        int[] out = {-1, 6, 400, Integer.MIN_VALUE, Integer.MAX_VALUE};
        for (int n : out) {
            check.badArgument("trim " + n, () -> x.trim(n));
        }
        check.same("none", x.trim(0), 5);
        check.same("two", x.trim(2), 3);
        check.same("the last one left", x.spoil(2, 0), 2);
        check.badArgument("the next one went", () -> x.spoil(3, 0));
        check.badArgument("more than are left", () -> x.trim(4));
        check.same("all that are left", x.trim(3), 0);
        check.same("behind that", x.feed(9) * 10 + x.spoil(0, 0), 19);
    }

    @Sentence("Byte i of the tape becomes itself ^ x: what it is then. Illegal argument: there is no such byte, "
            + "or x is not 0 .. 255.")
    static void spoils(Check check) {
        PaymentSwitch x = new PaymentSwitch(4);
        check.badArgument("of an empty tape", () -> x.spoil(0, 0));
        x.feed(0x0F);
        x.feed(0xF0);
        int[] noByte = {-1, 2, 400, Integer.MIN_VALUE, Integer.MAX_VALUE};
        for (int i : noByte) {
            check.badArgument("byte " + i, () -> x.spoil(i, 0));
        }
        int[] out = {-1, 256, Integer.MIN_VALUE, Integer.MAX_VALUE};
        for (int v : out) {
            check.badArgument("by " + v, () -> x.spoil(0, v));
        }
        check.same("nothing changed", x.spoil(0, 0), 0x0F);
        check.same("by 255", x.spoil(0, 255), 0xF0);
        check.same("it stays so", x.spoil(0, 0), 0xF0);
        check.same("the last one", x.spoil(1, 1), 0xF1);
    }

    @Sentence("what = 0 the kind of its fault, 0 for none; 1 where it is, NONE for none. Illegal argument.")
    static void whatOfTheFault(Check check) {
        PaymentSwitch x = new PaymentSwitch(4);
        int[] out = {-1, 2, Integer.MIN_VALUE, Integer.MAX_VALUE};
        for (int what : out) {
            check.badArgument("what " + what, () -> x.fault(what));
        }
        x.compose();
        check.same("kind of none", x.fault(0), 0);
        check.same("place of none", x.fault(1), PaymentSwitch.NONE);
        x.feed(0);
        check.same("kind of one", x.fault(0), BEHIND);
        check.same("place of one", x.fault(1), 10);
    }

    @Sentence("(those that name none are done in all states)")
    static void tapeInAllStates(Check check) {
        PaymentSwitch x = new PaymentSwitch(4);
        for (int state = 0; state < 3; state++) {
            check.same("feed", x.feed(7), 1);
            check.same("spoil", x.spoil(0, 1), 6);
            check.same("fault", x.fault(0), SHORT);
            check.same("trim", x.trim(1), 0);
            check.same("size", x.size(), 0);
            check.badArgument("byteAt", () -> x.byteAt(0));
            if (state == 0) {
                x.open();
            } else if (state == 1) {
                x.crash(0);
            }
        }
    }

    @Sentence("a call that throws changes nothing")
    static void refusedCallsLeaveTheTape(Check check) {
        PaymentSwitch x = new PaymentSwitch(4);
        Fixture.tape(x, "0102 0304 05");
        check.badArgument("feed", () -> x.feed(256));
        check.badArgument("trim", () -> x.trim(6));
        check.badArgument("spoil", () -> x.spoil(5, 1));
        check.badArgument("spoil by 256", () -> x.spoil(4, 256));
        check.badArgument("fault", () -> x.fault(2));
        check.text("the tape", Fixture.tapeOf(x), "0102 0304 05");
    }

    // ---- SHORT

    @Sentence("1 SHORT: it ends before what is to be read does, at its length")
    static void shortInTheType(Check check) {
        fault(check, "", SHORT, 0);
        fault(check, "08", SHORT, 1);
    }

    @Sentence("1 SHORT: it ends before what is to be read does, at its length")
    static void shortInTheMaps(Check check) {
        String tape = "0800" + "80" + "00".repeat(7) + "04" + "00".repeat(7);
        for (int bytes = 2; bytes < 18; bytes++) {
            fault(check, tape.substring(0, bytes * 2), SHORT, bytes);
        }
        fault(check, tape, SHORT, 18);
        for (int bytes = 2; bytes < 10; bytes++) {
            fault(check, "0800" + "00".repeat(bytes - 2), SHORT, bytes);
        }
    }

    @Sentence("1 SHORT: it ends before what is to be read does, at its length")
    static void shortInEveryField(Check check) {
        PaymentSwitch x = Fixture.told(4);
        for (int field : Fixture.KNOWN_FIELDS) {
            x.message(800);
            if (field == 37 || field == 38 || field == 39 || field == 41) {
                x.letters(field, 7, 0);
            } else if (field == 54) {
                x.letters(field, 7, 40);
            } else {
                x.digits(field, 7);
            }
            int n = x.compose();
            check.same("field " + field, x.fault(0), 0);
            for (int left = n - 1; left >= (field > 64 ? 18 : 10); left--) {
                x.trim(1);
                check.same("kind of field " + field + " with " + left, x.fault(0), SHORT);
                check.same("place of field " + field + " with " + left, x.fault(1), left);
            }
        }
    }

    @Sentence("each looked for wholly before its bytes are asked")
    static void shortIsAheadOfAllElse(Check check) {
        fault(check, "FF", SHORT, 1);
        fault(check, "0800 FFFFFFFFFFFFFF", SHORT, 9);
        fault(check, "0800 FFFFFFFFFFFFFFFF", SHORT, 10);
        fault(check, "0800 FFFFFFFFFFFFFFFF FFFFFFFFFFFFFF", SHORT, 17);
        fault(check, NOTE_ALONE + "FF", SHORT, 11);
        fault(check, TRACE_ALONE + "FFFF", SHORT, 12);
        fault(check, CARD_ALONE + "19 FFFFFFFFFFFFFFFFFF", SHORT, 20);
        fault(check, RESPONSE_ALONE + "FF", SHORT, 11);
        fault(check, NOTE_ALONE + "0040" + "FF".repeat(39), SHORT, 51);
    }

    @Sentence("each looked for wholly before its bytes are asked")
    static void askedBeforeTheNextIsLookedFor(Check check) {
        fault(check, "FFFF", DIGIT, 0);
        fault(check, "0900", TYPE, 0);
        fault(check, "0800 0000000000000001", MAP, 9);
        fault(check, CARD_ALONE + "FF", DIGIT, 10);
        fault(check, CARD_ALONE + "20", LENGTH, 10);
        fault(check, "0800 6000000000000000 01 FF", DIGIT, 11);
    }

    // ---- DIGIT

    @Sentence("2 DIGIT: half a byte that is above 9")
    static void halvesAboveNine(Check check) {
        for (int half = 0; half < 16; half++) {
            String h = Integer.toHexString(half);
            int kind = half > 9 ? DIGIT : 0;
            for (int i = 0; i < 6; i++) {
                String digits = "0".repeat(i) + h + "0".repeat(5 - i);
                fault(check, TRACE_ALONE + digits, kind, half > 9 ? 10 + i / 2 : PaymentSwitch.NONE);
            }
        }
    }

    @Sentence("2 DIGIT: half a byte that is above 9")
    static void halvesOfTheType(Check check) {
        fault(check, "A800 0000000000000000", DIGIT, 0);
        fault(check, "0A00 0000000000000000", DIGIT, 0);
        fault(check, "08A0 0000000000000000", DIGIT, 1);
        fault(check, "080A 0000000000000000", DIGIT, 1);
        fault(check, "9999 0000000000000000", TYPE, 0);
    }

    @Sentence("2 DIGIT: half a byte that is above 9")
    static void halvesOfLengths(Check check) {
        fault(check, CARD_ALONE + "A0 00", DIGIT, 10);
        fault(check, CARD_ALONE + "0A 00", DIGIT, 10);
        fault(check, ACQUIRER_ALONE + "0B 00", DIGIT, 10);
        fault(check, NOTE_ALONE + "0A00 30", DIGIT, 10);
        fault(check, NOTE_ALONE + "00A0 30", DIGIT, 11);
        fault(check, NOTE_ALONE + "000A 30", DIGIT, 11);
    }

    @Sentence("or a 0 in front of odd digits that is none, at this byte")
    static void noZeroInFrontOfOddDigits(Check check) {
        for (int front = 0; front < 16; front++) {
            String h = Integer.toHexString(front);
            int kind = front == 0 ? 0 : DIGIT;
            int place = front == 0 ? PaymentSwitch.NONE : 10;
            fault(check, CURRENCY_ALONE + h + "978", kind, place);
            fault(check, NOTE_ALONE + h + "001 30", kind, place);
            fault(check, CARD_ALONE + "01" + h + "5", kind, front == 0 ? place : 11);
            fault(check, CARD_ALONE + "19" + h + "5".repeat(19), kind, front == 0 ? place : 11);
            fault(check, ACQUIRER_ALONE + "11" + h + "5".repeat(11), kind, front == 0 ? place : 11);
            fault(check, "0800 8000000000000000 0400000000000000" + h + "301", kind, front == 0 ? place : 18);
        }
        noFault(check, CARD_ALONE + "02 95");
    }

    // ---- TYPE

    @Sentence("3 TYPE: it is none of 100, 101, 110, 220, 221, 230, 400, 401, 410, 420, 421, 430, 500, 501, 510, 800, 810, "
            + "at 0")
    static void allTypes(Check check) {
        PaymentSwitch x = new PaymentSwitch(4);
        for (int type = 0; type <= 9999; type++) {
            x = type % 100 == 0 ? new PaymentSwitch(4) : x;
            x.message(type);
            x.compose();
            boolean known = Fixture.isIn(type, Fixture.TYPES);
            check.same("kind of " + type, x.fault(0), known ? 0 : TYPE);
            check.same("place of " + type, x.fault(1), known ? PaymentSwitch.NONE : 0);
        }
    }

    @Sentence("(asked before the maps are looked for)")
    static void typesWithoutMaps(Check check) {
        fault(check, "0111", TYPE, 0);
        fault(check, "0000", TYPE, 0);
        fault(check, "0810", SHORT, 2);
        fault(check, "0811 FFFFFFFFFFFFFFFF", TYPE, 0);
    }

    // ---- MAP

    @Sentence("4 MAP: a bit of a field that is not known is 1, at the first byte of the maps with one")
    static void everyBit(Check check) {
        for (int k = 2; k <= 128; k++) {
            PaymentSwitch x = new PaymentSwitch(4);
            int place = 2 + (k - 1) / 8;
            Fixture.tape(x, "0800 8000000000000000 0000000000000000");
            x.spoil(place, 128 >> (k - 1) % 8);
            if (!Fixture.isIn(k, Fixture.KNOWN_FIELDS)) {
                check.same("kind with " + k, x.fault(0), MAP);
                check.same("place with " + k, x.fault(1), place);
            } else if (k > 64) {
                check.same("kind with " + k, x.fault(0), SHORT);
                check.same("place with " + k, x.fault(1), 18);
            }
        }
        for (int k = 2; k <= 64; k++) {
            PaymentSwitch x = new PaymentSwitch(4);
            Fixture.tape(x, "0800 0000000000000000");
            x.spoil(2 + (k - 1) / 8, 128 >> (k - 1) % 8);
            check.same("kind with " + k + " alone", x.fault(0), Fixture.isIn(k, Fixture.KNOWN_FIELDS) ? SHORT : MAP);
            check.same("place with " + k + " alone", x.fault(1), Fixture.isIn(k, Fixture.KNOWN_FIELDS) ? 10 : 2 + (k - 1) / 8);
        }
    }

    @Sentence("at the first byte of the maps with one")
    static void firstByteOfSeveral(Check check) {
        fault(check, "0800 0000000000000101", MAP, 8);
        fault(check, "0800 8000000000000001 0000000000000001", MAP, 9);
        fault(check, "0800 8000000000000000 8000000000000001", MAP, 10);
        fault(check, "0800 8000000000000000 0000000100000001", MAP, 13);
        fault(check, "0800 FFFFFFFFFFFFFFFF FFFFFFFFFFFFFFFF", MAP, 2);
    }

    @Sentence("(bit 1 says whether there is a second map)")
    static void bitOneIsNoField(Check check) {
        noFault(check, "0800 8000000000000000 0400000000000000 0301");
        noFault(check, "0800 0000000000000000");
        fault(check, "0800 0000000000000000 0400000000000000 0301", BEHIND, 10);
        fault(check, "0800 8000000000000000 8400000000000000 0301", MAP, 10);
    }

    @Sentence("or, if there is none such, the second map has no bit, at its first byte")
    static void emptySecondMap(Check check) {
        fault(check, "0800 8000000000000000 0000000000000000", MAP, 10);
        fault(check, "0800 8020000000000000 0000000000000000 000001", MAP, 10);
        fault(check, "0800 8000000000000001 0000000000000000", MAP, 9);
        noFault(check, "0800 8020000000000000 0400000000000000 000001 0301");
    }

    @Sentence("(Both maps are read before 4 is asked.)")
    static void bothMapsAreReadFirst(Check check) {
        fault(check, "0800 8800000000000000", SHORT, 10);
        fault(check, "0800 8800000000000000 00000000000000", SHORT, 17);
        fault(check, "0800 8800000000000000 0000000000000000", MAP, 2);
        fault(check, "0800 8000000000000000 80000000000000", SHORT, 17);
        fault(check, "0800 0800000000000000", MAP, 2);
    }

    @Sentence("Bit k of the maps, counted from 1 on from the highest bit of the first byte, says whether field k is there")
    static void mapsEndWhereFieldsBegin(Check check) {
        noFault(check, "0800 8020000000000000 0400000000000000 999999 0301");
        noFault(check, "0800 0020000000000000 999999");
        fault(check, "0800 C000000000000000 0400000000000000 99", LENGTH, 18);
    }

    // ---- LENGTH

    @Sentence("2 CARD: how many digits, two digits in a byte (1 .. 19), these.")
    static void lengthsOfCards(Check check) {
        for (int n = 0; n <= 99; n++) {
            String length = String.format("%02d", n);
            if (n >= 1 && n <= 19) {
                noFault(check, CARD_ALONE + length + (n % 2 == 1 ? "0" : "") + "5".repeat(n));
            } else {
                fault(check, CARD_ALONE + length, LENGTH, 10);
                fault(check, CARD_ALONE + length + "00".repeat(50), LENGTH, 10);
            }
        }
    }

    @Sentence("32 ACQUIRER: as CARD, 1 .. 11.")
    static void lengthsOfAcquirers(Check check) {
        for (int n = 0; n <= 99; n++) {
            String length = String.format("%02d", n);
            if (n >= 1 && n <= 11) {
                noFault(check, ACQUIRER_ALONE + length + (n % 2 == 1 ? "0" : "") + "5".repeat(n));
            } else {
                fault(check, ACQUIRER_ALONE + length + "00".repeat(50), LENGTH, 10);
            }
        }
    }

    @Sentence("54 NOTE: how many letters, three digits in two bytes (1 .. 40), these.")
    static void lengthsOfNotes(Check check) {
        for (int n = 0; n <= 999; n++) {
            String length = String.format("%04d", n);
            if (n >= 1 && n <= 40) {
                noFault(check, NOTE_ALONE + length + "41".repeat(n));
            } else {
                fault(check, NOTE_ALONE + length + "41".repeat(60), LENGTH, 10);
            }
        }
    }

    @Sentence("5 LENGTH: a number of digits or letters is out of its bounds, at its first byte")
    static void lengthsBehindOtherFields(Check check) {
        fault(check, "0800 4000000100000000 01 05 00", LENGTH, 12);
        fault(check, "0800 4000000100000000 01 05 12", LENGTH, 12);
        fault(check, "0800 0020000000000400 000001 0000", LENGTH, 13);
        fault(check, "0800 0020000000000400 000001 0041", LENGTH, 13);
        fault(check, "0800 C000000000000000 0400000000000000 20", LENGTH, 18);
    }

    private static void fixed(Check check, int field, int bytes, String each) {
        String front = field > 64 ? "0800 8000000000000000" + String.format("%016X", 1L << (128 - field))
                : "0800" + String.format("%016X", 1L << (64 - field));
        int begin = field > 64 ? 18 : 10;
        noFault(check, front + each.repeat(bytes));
        fault(check, front + each.repeat(bytes - 1), SHORT, begin + bytes - 1);
        fault(check, front, SHORT, begin);
        fault(check, front + each.repeat(bytes + 1), BEHIND, begin + bytes);
    }

    @Sentence("3 MODE: 6 digits. 4 AMOUNT: 12. 11 TRACE: 6.")
    static void fieldsOfDigits(Check check) {
        fixed(check, 3, 3, "00");
        fixed(check, 4, 6, "99");
        fixed(check, 11, 3, "09");
    }

    @Sentence("37 REFERENCE: 12 letters. 38 APPROVAL: 6 letters. 39 RESPONSE: 2 letters. 41 TERMINAL: 8 letters. "
            + "49 CURRENCY: 3 digits.")
    static void fieldsOfLetters(Check check) {
        fixed(check, 37, 12, "5A");
        fixed(check, 38, 6, "30");
        fixed(check, 39, 2, "39");
        fixed(check, 41, 8, "41");
        fixed(check, 49, 2, "09");
    }

    @Sentence("70 NETWORK: 3 digits. 74 COUNT: 10 digits. 86 SUM: 16. 90 ORIGINAL: 42 digits. 95 REPLACEMENT: 12.")
    static void fieldsOfTheSecondMap(Check check) {
        fixed(check, 70, 2, "09");
        fixed(check, 74, 5, "99");
        fixed(check, 86, 8, "99");
        fixed(check, 90, 21, "99");
        fixed(check, 95, 6, "99");
    }

    // ---- LETTER

    @Sentence("LETTERS are the bytes of 0 .. 9 and A .. Z, one each.")
    static void everyByteAsALetter(Check check) {
        for (int b = 0; b < 256; b++) {
            boolean good = b >= '0' && b <= '9' || b >= 'A' && b <= 'Z';
            String hex = String.format("%02X", b);
            fault(check, RESPONSE_ALONE + hex + "30", good ? 0 : LETTER, good ? PaymentSwitch.NONE : 10);
            fault(check, RESPONSE_ALONE + "30" + hex, good ? 0 : LETTER, good ? PaymentSwitch.NONE : 11);
        }
    }

    @Sentence("6 LETTER: a byte that is none, at it")
    static void everyLetterOfEveryField(Check check) {
        int[] fields = {37, 38, 39, 41, 54};
        int[] lengths = {12, 6, 2, 8, 40};
        for (int f = 0; f < fields.length; f++) {
            PaymentSwitch x = new PaymentSwitch(4);
            x.letters(fields[f], 0, fields[f] == 54 ? 40 : 0);
            int n = x.compose();
            check.same("bytes", n, 10 + lengths[f] + (fields[f] == 54 ? 2 : 0));
            for (int i = n - lengths[f]; i < n; i++) {
                x.spoil(i, 0x10);
                check.same("kind of field " + fields[f] + " at " + i, x.fault(0), LETTER);
                check.same("place of field " + fields[f] + " at " + i, x.fault(1), i);
                x.spoil(i, 0x10);
            }
        }
    }

    // ---- BEHIND

    @Sentence("7 BEHIND: bytes behind the last field, at the first one")
    static void bytesBehind(Check check) {
        fault(check, "0800 0000000000000000 00", BEHIND, 10);
        fault(check, "0800 0000000000000000 FFFF", BEHIND, 10);
        fault(check, TRACE_ALONE + "000001 00", BEHIND, 13);
        fault(check, CARD_ALONE + "03 0123 45", BEHIND, 13);
        fault(check, "0800 8000000000000000 0400000000000000 0301 00", BEHIND, 20);
        fault(check, "0800 0000000000000000" + "00".repeat(390), BEHIND, 10);
    }

    @Sentence("Its FAULT is the first that is met")
    static void theFirstFaultCounts(Check check) {
        fault(check, "0800 4020000000000000 01 1F FF0000 00", DIGIT, 11);
        fault(check, "0800 0020000002000000 00000F 2020", DIGIT, 12);
        fault(check, "0800 0020000002000000 000000 2020 00", LETTER, 13);
        fault(check, "0800 0020000002000000 000000 3030 00", BEHIND, 15);
        fault(check, "0800 0020000002000000 000000 30", SHORT, 14);
    }

    @Sentence("DIGITS lie two in a byte, the first one in its higher half, behind a 0 if they are odd in number.")
    static void evenAndOddDigits(Check check) {
        PaymentSwitch x = new PaymentSwitch(4);
        x.digits(2, 12);
        x.compose();
        check.text("two", Fixture.tapeOf(x), CARD_ALONE + "02 12");
        x.digits(2, 123);
        x.compose();
        check.text("three", Fixture.tapeOf(x), CARD_ALONE + "03 01 23");
        x.digits(2, 1);
        x.compose();
        check.text("one", Fixture.tapeOf(x), CARD_ALONE + "01 01");
    }
}
