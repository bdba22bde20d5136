/** Promises 9 to 15: the draft. */
public final class DraftTest {
    private static final Check CHECK = new Check();

    public static void main(String[] args) {
        firstDraft();
        types();
        digits();
        wrongDigits();
        letters();
        approvals();
        originals();
        omissions();
        allFields();
        inAllStates();
        CHECK.end();
    }

    private static String composed(PaymentSwitch x) {
        int n = x.compose();
        String tape = Fixture.tapeOf(x);
        CHECK.same("bytes of " + tape, n, tape.length() / 2);
        return tape;
    }

    private static void firstDraft() {
        PaymentSwitch x = new PaymentSwitch(4);
        CHECK.text("the first draft", composed(x), "0800 0000000000000000");
    }

    private static void types() {
        PaymentSwitch x = new PaymentSwitch(4);
        CHECK.badArgument("message(-1)", () -> x.message(-1));
        CHECK.badArgument("message(10000)", () -> x.message(10000));
        x.digits(11, 1);
        x.message(9876);
        CHECK.text("a type, and no fields", composed(x), "9876 0000000000000000");
        x.message(1000);
        CHECK.text("type 1000", composed(x), "1000 0000000000000000");
        x.message(0);
        CHECK.text("type 0", composed(x), "0000 0000000000000000");
    }

    private static String withDigits(int field, long v) {
        PaymentSwitch x = new PaymentSwitch(4);
        x.message(100);
        x.digits(field, v);
        return composed(x);
    }

    private static void digits() {
        CHECK.text("CARD of 1 digit", withDigits(2, 0), "0100 4000000000000000 01 00");
        CHECK.text("CARD of 2 digits", withDigits(2, 47), "0100 4000000000000000 02 47");
        CHECK.text("CARD of 13 digits", withDigits(2, 4000000000002L), "0100 4000000000000000 13 04000000000002");
        CHECK.text("CARD of 19 digits", withDigits(2, Long.MAX_VALUE),
                "0100 4000000000000000 19 09223372036854775807");
        CHECK.text("MODE", withDigits(3, 999999), "0100 2000000000000000 999999");
        CHECK.text("AMOUNT", withDigits(4, 250), "0100 1000000000000000 000000000250");
        CHECK.text("AMOUNT of 12", withDigits(4, 999999999999L), "0100 1000000000000000 999999999999");
        CHECK.text("TRACE", withDigits(11, 77), "0100 0020000000000000 000077");
        CHECK.text("ACQUIRER", withDigits(32, 12345), "0100 0000000100000000 05 012345");
        CHECK.text("ACQUIRER of 11", withDigits(32, 98765432109L), "0100 0000000100000000 11 098765432109");
        CHECK.text("CURRENCY", withDigits(49, 978), "0100 0000000000008000 0978");
        CHECK.text("NETWORK", withDigits(70, 301), "0100 8000000000000000 0400000000000000 0301");
        CHECK.text("COUNT", withDigits(74, 9876543210L), "0100 8000000000000000 0040000000000000 9876543210");
        CHECK.text("SUM", withDigits(86, 17), "0100 8000000000000000 0000040000000000 0000000000000017");
        CHECK.text("ORIGINAL", withDigits(90, 1234567890123456789L),
                "0100 8000000000000000 0000004000000000 00000000000000000000000 1234567890123456789");
        CHECK.text("REPLACEMENT", withDigits(95, 5), "0100 8000000000000000 0000000200000000 000000000005");
        PaymentSwitch x = new PaymentSwitch(4);
        x.digits(2, 123456);
        x.digits(2, 7);
        CHECK.text("a field told again", composed(x), "0800 4000000000000000 01 07");
    }

    private static void wrongDigits() {
        PaymentSwitch x = new PaymentSwitch(4);
        int[] without = {37, 38, 39, 41, 54, 0, 1, -1, 5, 64, 65, 128, 129, Integer.MAX_VALUE, Integer.MIN_VALUE};
        for (int field : without) {
            CHECK.badArgument("digits of " + field, () -> x.digits(field, 0));
        }
        int[] fields = {3, 4, 11, 32, 49, 70, 74, 86, 95};
        long[] above = {1000000, 1000000000000L, 1000000, 100000000000L, 1000, 1000, 10000000000L,
            10000000000000000L, 1000000000000L};
        for (int i = 0; i < fields.length; i++) {
            int field = fields[i];
            long v = above[i];
            CHECK.badArgument("more digits than " + field, () -> x.digits(field, v));
            CHECK.badArgument("below 0 of " + field, () -> x.digits(field, -1));
            x.digits(field, v - 1);
        }
        CHECK.badArgument("CARD below 0", () -> x.digits(2, -1));
        CHECK.badArgument("ORIGINAL below 0", () -> x.digits(90, Long.MIN_VALUE));
        CHECK.no("a call that throws changes nothing", x.omit(2));
    }

    private static String withLetters(int field, long v, int n) {
        PaymentSwitch x = new PaymentSwitch(4);
        x.message(100);
        x.letters(field, v, n);
        return composed(x);
    }

    private static void letters() {
        // 31 is V, 30 is U, 10 is A and 9 is 9: letter 0 is the lowest of v.
        long v = 31 | 30L << 5 | 10L << 10 | 9L << 15 | 1L << 55;
        CHECK.text("REFERENCE", withLetters(37, v, 0),
                "0100 0000000008000000" + Fixture.hexOf("VUA900000001"));
        CHECK.text("APPROVAL", withLetters(38, v, 0), "0100 0000000004000000" + Fixture.hexOf("VUA900"));
        CHECK.text("RESPONSE", withLetters(39, v, 0), "0100 0000000002000000" + Fixture.hexOf("VU"));
        CHECK.text("TERMINAL", withLetters(41, v, 0), "0100 0000000000800000" + Fixture.hexOf("VUA90000"));
        CHECK.text("NOTE of 40", withLetters(54, v, 40), "0100 0000000000000400 0040"
                + Fixture.hexOf("VUA900000001VUA900000001VUA900000001VUA9"));
        CHECK.text("NOTE of 1", withLetters(54, v, 1), "0100 0000000000000400 0001" + Fixture.hexOf("V"));
        CHECK.text("letters of -1", withLetters(37, -1, 0),
                "0100 0000000008000000" + Fixture.hexOf("VVVVVVVVVVVV"));
        PaymentSwitch x = new PaymentSwitch(4);
        int[] without = {2, 3, 4, 11, 32, 49, 70, 74, 86, 90, 95, 0, 1, -5, 36, 128};
        for (int field : without) {
            CHECK.badArgument("letters of " + field, () -> x.letters(field, 0, 0));
        }
        int[] fixed = {37, 38, 39, 41};
        for (int field : fixed) {
            CHECK.badArgument("n of " + field, () -> x.letters(field, 0, 1));
            CHECK.badArgument("n below 0 of " + field, () -> x.letters(field, 0, -1));
        }
        CHECK.badArgument("NOTE of 0", () -> x.letters(54, 0, 0));
        CHECK.badArgument("NOTE of 41", () -> x.letters(54, 0, 41));
        CHECK.badArgument("NOTE of -1", () -> x.letters(54, 0, -1));
        CHECK.text("a call that throws changes nothing", composed(x), "0800 0000000000000000");
    }

    private static String withApproval(int number) {
        PaymentSwitch x = new PaymentSwitch(4);
        x.approval(number);
        return composed(x);
    }

    private static void approvals() {
        CHECK.text("APPROVAL of 0", withApproval(0), "0800 0000000004000000" + Fixture.hexOf("000000"));
        CHECK.text("APPROVAL of 35", withApproval(35), "0800 0000000004000000" + Fixture.hexOf("00000Z"));
        CHECK.text("APPROVAL of 36", withApproval(36), "0800 0000000004000000" + Fixture.hexOf("000010"));
        CHECK.text("APPROVAL of 10^9", withApproval(1000000000),
                "0800 0000000004000000" + Fixture.hexOf(Integer.toString(1000000000, 36).toUpperCase()));
        PaymentSwitch x = new PaymentSwitch(4);
        CHECK.badArgument("approval(-1)", () -> x.approval(-1));
        CHECK.badArgument("approval(10^9 + 1)", () -> x.approval(1000000001));
    }

    private static void originals() {
        PaymentSwitch x = new PaymentSwitch(4);
        x.original(9876, 543210, 98765);
        CHECK.text("ORIGINAL", composed(x), "0800 8000000000000000 0000004000000000"
                + "9876 543210 0000000000 00000098765 00000000000");
        x.original(100, 1, 0);
        CHECK.text("ORIGINAL again", composed(x), "0800 8000000000000000 0000004000000000"
                + "0100 000001 0000000000 00000000000 00000000000");
        CHECK.badArgument("type -1", () -> x.original(-1, 0, 0));
        CHECK.badArgument("type 10000", () -> x.original(10000, 0, 0));
        CHECK.badArgument("trace -1", () -> x.original(0, -1, 0));
        CHECK.badArgument("trace 1000000", () -> x.original(0, 1000000, 0));
        CHECK.badArgument("acquirer -1", () -> x.original(0, 0, -1));
        CHECK.badArgument("acquirer 100000", () -> x.original(0, 0, 100000));
    }

    private static void omissions() {
        PaymentSwitch x = new PaymentSwitch(4);
        int[] known = {2, 3, 4, 11, 32, 37, 38, 39, 41, 49, 54, 70, 74, 86, 90, 95};
        for (int field : known) {
            CHECK.no("omit " + field + " when it is not there", x.omit(field));
        }
        int[] unknown = {0, 1, -1, 5, 40, 65, 96, 128, Integer.MAX_VALUE};
        for (int field : unknown) {
            CHECK.badArgument("omit " + field, () -> x.omit(field));
        }
        x.digits(11, 5);
        x.digits(70, 301);
        CHECK.yes("omit 70", x.omit(70));
        CHECK.no("omit 70 again", x.omit(70));
        CHECK.text("the second map goes with its last field", composed(x), "0800 0020000000000000 000005");
    }

    private static void allFields() {
        PaymentSwitch x = new PaymentSwitch(4);
        x.message(100);
        long[] most = {Long.MAX_VALUE, 999999, 1, 2, 99999999999L, 3, 4, 5, 6, 7, 8};
        int[] fields = {2, 3, 4, 11, 32, 49, 70, 74, 86, 90, 95};
        for (int i = 0; i < fields.length; i++) {
            x.digits(fields[i], most[i]);
        }
        int[] lettered = {37, 38, 39, 41};
        for (int field : lettered) {
            x.letters(field, 12345, 0);
        }
        x.letters(54, 1, 40);
        CHECK.same("the longest message", x.compose(), 162);
        CHECK.same("has no fault", x.fault(0), 0);
        CHECK.same("the draft stays", x.compose(), 162);
        x.open();
        CHECK.same("and is answered", x.send(), 30);
    }

    private static void inAllStates() {
        PaymentSwitch x = Fixture.opened(4);
        x.crash(0);
        x.message(800);
        x.digits(11, 5);
        x.letters(37, 0, 0);
        x.approval(1);
        x.original(1, 1, 1);
        CHECK.yes("omit when DOWN", x.omit(37) && x.omit(38) && x.omit(90));
        CHECK.same("compose when DOWN", x.compose(), 13);
        x.recover();
        CHECK.same("draft behind recovery", x.compose(), 13);
    }
}
