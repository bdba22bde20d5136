/** Promises 20 to 23: the tape and its faults. */
public final class TapeTest {
    private static final Check CHECK = new Check();

    public static void main(String[] args) {
        feed();
        trim();
        spoil();
        wrongFault();
        shortFaults();
        everyFrontOfAMessageIsShort();
        digitFaults();
        lengthFaults();
        letterFaults();
        behindFaults();
        goodTapes();
        CHECK.end();
    }

    private static void feed() {
        PaymentSwitch x = new PaymentSwitch(4);
        CHECK.badArgument("feed(-1)", () -> x.feed(-1));
        CHECK.badArgument("feed(256)", () -> x.feed(256));
        for (int i = 1; i <= 400; i++) {
            CHECK.same("feed", x.feed(i % 256), i);
        }
        CHECK.badState("byte 401", () -> x.feed(0));
        CHECK.badArgument("byte 401 out of its bounds", () -> x.feed(256));
        CHECK.same("byte 254", x.spoil(254, 0), 255);
        CHECK.same("byte 399", x.spoil(399, 0), 400 % 256);
        x.trim(1);
        x.open();
        x.crash(0);
        CHECK.same("feed when DOWN", x.feed(0), 400);
    }

    private static void trim() {
        PaymentSwitch x = new PaymentSwitch(4);
        CHECK.same("trim nothing", x.trim(0), 0);
        CHECK.badArgument("trim of an empty tape", () -> x.trim(1));
        x.feed(1);
        x.feed(2);
        x.feed(3);
        CHECK.badArgument("trim(-1)", () -> x.trim(-1));
        CHECK.badArgument("trim(4)", () -> x.trim(4));
        CHECK.same("trim(2)", x.trim(2), 1);
        CHECK.same("the first stays", x.spoil(0, 0), 1);
        CHECK.same("trim all", x.trim(1), 0);
        x.open();
        x.crash(0);
        CHECK.same("trim when DOWN", x.trim(0), 0);
    }

    private static void spoil() {
        PaymentSwitch x = new PaymentSwitch(4);
        CHECK.badArgument("no such byte", () -> x.spoil(0, 0));
        x.feed(0xA5);
        CHECK.same("spoil", x.spoil(0, 0xFF), 0x5A);
        CHECK.same("spoil by nothing", x.spoil(0, 0), 0x5A);
        CHECK.badArgument("byte -1", () -> x.spoil(-1, 0));
        CHECK.badArgument("byte 1", () -> x.spoil(1, 0));
        CHECK.badArgument("x -1", () -> x.spoil(0, -1));
        CHECK.badArgument("x 256", () -> x.spoil(0, 256));
        x.open();
        x.crash(0);
        CHECK.same("spoil when DOWN", x.spoil(0, 1), 0x5B);
    }

    private static void fault(String hex, int kind, int place) {
        PaymentSwitch x = new PaymentSwitch(4);
        Fixture.tape(x, hex);
        CHECK.same("kind of the fault of " + hex, x.fault(0), kind);
        CHECK.same("place of the fault of " + hex, x.fault(1), place);
        x.open();
        if (kind != 0) {
            CHECK.same("send " + hex, x.send(), PaymentSwitch.FAULT);
        }
        x.crash(0);
        CHECK.same("kind when DOWN of " + hex, x.fault(0), kind);
    }

    private static void wrongFault() {
        PaymentSwitch x = new PaymentSwitch(4);
        CHECK.badArgument("fault(-1)", () -> x.fault(-1));
        CHECK.badArgument("fault(2)", () -> x.fault(2));
    }

    private static void shortFaults() {
        fault("", 1, 0);
        fault("08", 1, 1);
        fault("AA", 1, 1);
        fault("0800", 1, 2);
        fault("0800 FFFFFFFFFFFFFF", 1, 9);
        fault("0800 00000000000000", 1, 9);
        fault("0800 40000000000000", 1, 9);
        fault("0800 8000000000000000", 1, 10);
        fault("0800 FFFFFFFFFFFFFFFF FF", 1, 11);
        fault("0800 0020000000000000 FFFF", 1, 12);
        fault("0800 4000000000000000", 1, 10);
        fault("0800 4000000000000000 19 FF", 1, 12);
        fault("0800 0000000000000400 FF", 1, 11);
        fault("0800 0000000000000400 0002 20", 1, 13);
        fault("0800 0000000008000000 2020", 1, 12);
    }

    private static void everyFrontOfAMessageIsShort() {
        PaymentSwitch x = Fixture.opened(30);
        Fixture.ask(x, 1, 0, 100);
        int n = x.undo(1, true, 2, 50);
        for (int i = n - 1; i >= 0; i--) {
            x.trim(1);
            CHECK.same("kind at " + i, x.fault(0), 1);
            CHECK.same("place at " + i, x.fault(1), i);
        }
    }

    private static void digitFaults() {
        fault("A800 0000000000000000", 2, 0);
        fault("080A 0000000000000000", 2, 1);
        fault("08A0", 2, 1);
        fault("FFFF", 2, 0);
        fault("0800 0020000000000000 00 0A 00", 2, 11);
        fault("0800 0020000000000000 00 00 F0", 2, 12);
        fault("0800 0000000000008000 1978", 2, 10);
        fault("0800 0000000000008000 0A78", 2, 10);
        fault("0800 0000000000008000 097F", 2, 11);
        fault("0800 4000000000000000 1A 00", 2, 10);
        fault("0800 4000000000000000 A1 00", 2, 10);
        fault("0800 4000000000000000 01 10", 2, 11);
        fault("0800 4000000000000000 03 01 FF", 2, 12);
        fault("0800 0000000000000400 1001 30", 2, 10);
        fault("0800 0000000000000400 000A 30", 2, 11);
        fault("0800 8000000000000000 0400000000000000 1301", 2, 18);
    }

    private static void lengthFaults() {
        fault("0800 4000000000000000 00", 5, 10);
        fault("0800 4000000000000000 20", 5, 10);
        fault("0800 4000000000000000 99", 5, 10);
        fault("0800 0000000100000000 00", 5, 10);
        fault("0800 0000000100000000 12", 5, 10);
        fault("0800 0000000000000400 0000", 5, 10);
        fault("0800 0000000000000400 0041", 5, 10);
        fault("0800 0000000000000400 0999", 5, 10);
        fault("0800 4000000100000000 01 05 12", 5, 12);
    }

    private static void letterFaults() {
        String[] wrong = {"00", "2F", "3A", "40", "5B", "61", "7A", "FF"};
        for (String letter : wrong) {
            fault("0800 0000000002000000 30" + letter, 6, 11);
            fault("0800 0000000002000000" + letter + "30", 6, 10);
            fault("0800 0000000000000400 0002 30" + letter, 6, 13);
        }
        String[] right = {"30", "39", "41", "5A"};
        for (String letter : right) {
            fault("0800 0000000002000000 30" + letter, 0, -1);
        }
    }

    private static void behindFaults() {
        fault("0800 0000000000000000 00", 7, 10);
        fault("0800 0000000000000000 0000", 7, 10);
        fault("0800 0020000000000000 000000 FF", 7, 13);
        fault("0800 8000000000000000 0400000000000000 0301 00", 7, 20);
    }

    private static void goodTapes() {
        fault("0800 0000000000000000", 0, -1);
        fault("0100 4000000000000000 19 0" + "9".repeat(19), 0, -1);
        fault("0100 4000000000000000 01 00", 0, -1);
        fault("0100 0000000100000000 11 000000000001", 0, -1);
        fault("0100 0000000000000400 0040" + "5A".repeat(40), 0, -1);
    }
}
