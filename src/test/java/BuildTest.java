/** Promises 16 to 19: ask, present, undo, total. */
public final class BuildTest {
    private static final Check CHECK = new Check();
    private static final long MOST_AMOUNT = 999999999999L;

    public static void main(String[] args) {
        ask();
        wrongAsk();
        present();
        presentAdvised();
        wrongPresent();
        undo();
        wrongUndo();
        total();
        wrongTotal();
        draftIsTheMessage();
        CHECK.end();
    }

    private static void ask() {
        PaymentSwitch x = Fixture.told(4);
        CHECK.same("ask in the TABLE", x.ask(0, 0, 1, 0, 3000, 0, 1), 53);
        CHECK.text("ask", Fixture.tapeOf(x), "0100 7020000108808000 12 410000000019 000000 000000003000 000001"
                + "01 00" + Fixture.hexOf("000000000001") + Fixture.hexOf("00000000") + "0978");
        x.open();
        CHECK.same("ask again", x.ask(1, Integer.MAX_VALUE, 999999, 1, MOST_AMOUNT, 999999, Integer.MAX_VALUE), 60);
        CHECK.text("ask with all that fits", Fixture.tapeOf(x), "0101 7020000108808000 17 041000000002000002 999999"
                + "999999999999 999999 10 2147483647" + Fixture.hexOf("002147483647")
                + Fixture.hexOf("00000000") + "0978");
        x.crash(0);
        CHECK.same("ask when DOWN", x.ask(0, 0, 0, 0, 0, 0, 0), 53);
    }

    private static void wrongAsk() {
        PaymentSwitch x = Fixture.opened(4);
        x.ask(0, 0, 1, 0, 1, 0, 1);
        String before = Fixture.tapeOf(x);
        CHECK.badArgument("again 2", () -> x.ask(2, 0, 0, 0, 0, 0, 0));
        CHECK.badArgument("again -1", () -> x.ask(-1, 0, 0, 0, 0, 0, 0));
        CHECK.badArgument("acquirer -1", () -> x.ask(0, -1, 0, 0, 0, 0, 0));
        CHECK.badArgument("trace -1", () -> x.ask(0, 0, -1, 0, 0, 0, 0));
        CHECK.badArgument("trace 1000000", () -> x.ask(0, 0, 1000000, 0, 0, 0, 0));
        CHECK.badArgument("card -1", () -> x.ask(0, 0, 0, -1, 0, 0, 0));
        CHECK.badArgument("card 5", () -> x.ask(0, 0, 0, 5, 0, 0, 0));
        CHECK.badArgument("amount -1", () -> x.ask(0, 0, 0, 0, -1, 0, 0));
        CHECK.badArgument("amount of 13", () -> x.ask(0, 0, 0, 0, MOST_AMOUNT + 1, 0, 0));
        CHECK.badArgument("mode -1", () -> x.ask(0, 0, 0, 0, 0, -1, 0));
        CHECK.badArgument("mode of 7", () -> x.ask(0, 0, 0, 0, 0, 1000000, 0));
        CHECK.badArgument("reference -1", () -> x.ask(0, 0, 0, 0, 0, 0, -1));
        CHECK.text("the tape stays", Fixture.tapeOf(x), before);
        x.compose();
        CHECK.text("the draft stays", Fixture.tapeOf(x), before);
    }

    private static void present() {
        PaymentSwitch x = Fixture.opened(4);
        x.ask(0, 1, 7, 2, 100, 0, 42);
        x.send();
        CHECK.same("present", x.present(1, 999999, MOST_AMOUNT, 1), 53);
        CHECK.text("present", Fixture.tapeOf(x), "0220 702000010C008000 16 5200000000000007 000001 999999999999 999999"
                + "01 01" + Fixture.hexOf("000000000042") + Fixture.hexOf("000001") + "0978");
    }

    private static void presentAdvised() {
        PaymentSwitch x = Fixture.opened(4);
        Fixture.tape(x, "0420 C020000108000000 0000004000000000 19 00000000000000000005 000009"
                + "03 0001" + Fixture.hexOf("Z0A0B0C0D0E9") + "00".repeat(21));
        CHECK.same("an advice of what is not known", x.send(), 25);
        x.present(1, 3, 4, 5);
        CHECK.text("CARD and REFERENCE as they came", Fixture.tapeOf(x), "0220 702000010C008000"
                + "19 00000000000000000005 000005 000000000004 000003 01 01"
                + Fixture.hexOf("Z0A0B0C0D0E9") + Fixture.hexOf("000001") + "0978");
        x.undo(1, false, 3, 0);
        CHECK.text("undo as they came", Fixture.tapeOf(x), "0400 C020000108000000 0000004000000000"
                + "19 00000000000000000005 000003 01 01" + Fixture.hexOf("Z0A0B0C0D0E9")
                + "0100 000009 0000000000 00000000001 00000000000");
    }

    private static void wrongPresent() {
        PaymentSwitch x = Fixture.told(4);
        CHECK.badArgument("there is no payment in the TABLE", () -> x.present(1, 0, 0, 0));
        x.open();
        CHECK.badArgument("no payment yet", () -> x.present(1, 0, 0, 0));
        Fixture.ask(x, 1, 0, 100);
        CHECK.badArgument("payment 0", () -> x.present(0, 0, 0, 0));
        CHECK.badArgument("payment 2", () -> x.present(2, 0, 0, 0));
        CHECK.badArgument("trace -1", () -> x.present(1, -1, 0, 0));
        CHECK.badArgument("trace of 7", () -> x.present(1, 1000000, 0, 0));
        CHECK.badArgument("amount -1", () -> x.present(1, 0, -1, 0));
        CHECK.badArgument("amount of 13", () -> x.present(1, 0, MOST_AMOUNT + 1, 0));
        CHECK.badArgument("mode -1", () -> x.present(1, 0, 0, -1));
        CHECK.badArgument("mode of 7", () -> x.present(1, 0, 0, 1000000));
        x.crash(0);
        CHECK.badState("present when DOWN", () -> x.present(1, 0, 0, 0));
        CHECK.badState("no such payment when DOWN", () -> x.present(-7, 0, 0, 0));
        CHECK.badArgument("trace -1 when DOWN", () -> x.present(1, -1, 0, 0));
        CHECK.badArgument("amount -1 when DOWN", () -> x.present(1, 0, -1, 0));
        CHECK.badArgument("mode -1 when DOWN", () -> x.present(1, 0, 0, -1));
    }

    private static void undo() {
        PaymentSwitch x = Fixture.opened(4);
        x.ask(0, 1, 7, 2, 100, 0, 42);
        x.send();
        CHECK.same("undo", x.undo(1, false, 8, 0), 65);
        CHECK.text("undo", Fixture.tapeOf(x), "0400 C020000108000000 0000004000000000 16 5200000000000007 000008 01 01"
                + Fixture.hexOf("000000000042")
                + "0100 000007 0000000000 00000000001 00000000000");
        CHECK.same("undo by advice, with an amount", x.undo(1, true, 8, MOST_AMOUNT), 71);
        CHECK.text("undo by advice", Fixture.tapeOf(x), "0420 C020000108000000 0000004200000000 16 5200000000000007"
                + "000008 01 01" + Fixture.hexOf("000000000042")
                + "0100 000007 0000000000 00000000001 00000000000 999999999999");
    }

    private static void wrongUndo() {
        PaymentSwitch x = Fixture.told(4);
        CHECK.badArgument("there is no payment in the TABLE", () -> x.undo(1, true, 0, 0));
        x.open();
        Fixture.ask(x, 1, 0, 100);
        CHECK.badArgument("payment 0", () -> x.undo(0, true, 0, 0));
        CHECK.badArgument("payment 2", () -> x.undo(2, false, 0, 0));
        CHECK.badArgument("trace -1", () -> x.undo(1, false, -1, 0));
        CHECK.badArgument("trace of 7", () -> x.undo(1, false, 1000000, 0));
        CHECK.badArgument("left -1", () -> x.undo(1, false, 0, -1));
        CHECK.badArgument("left of 13", () -> x.undo(1, false, 0, MOST_AMOUNT + 1));
        x.crash(0);
        CHECK.badState("undo when DOWN", () -> x.undo(1, false, 0, 0));
        CHECK.badState("no such payment when DOWN", () -> x.undo(2, false, 0, 0));
        CHECK.badArgument("trace -1 when DOWN", () -> x.undo(1, false, -1, 0));
        CHECK.badArgument("left -1 when DOWN", () -> x.undo(1, false, 0, -1));
    }

    private static void total() {
        PaymentSwitch x = Fixture.opened(30);
        x.ask(0, 1, 7, 2, 100, 0, 42);
        x.send();
        Fixture.present(x, 1, 8, 70, 1);
        Fixture.present(x, 1, 9, 5, 1);
        CHECK.same("total", x.total(1, 10), 36);
        CHECK.text("total", Fixture.tapeOf(x), "0500 8020000100000000 0040040000000000 000010 01 01"
                + "0000000002 0000000000000075");
        x.total(0, 11);
        CHECK.text("total of nothing", Fixture.tapeOf(x), "0500 8020000100000000 0040040000000000 000011 01 00"
                + "0000000000 0000000000000000");
    }

    private static void wrongTotal() {
        PaymentSwitch x = Fixture.told(4);
        CHECK.badState("total in the TABLE", () -> x.total(0, 0));
        CHECK.badArgument("acquirer 2 in the TABLE", () -> x.total(2, 0));
        x.open();
        CHECK.badArgument("acquirer -1", () -> x.total(-1, 0));
        CHECK.badArgument("acquirer 2", () -> x.total(2, 0));
        CHECK.badArgument("trace -1", () -> x.total(0, -1));
        CHECK.badArgument("trace of 7", () -> x.total(0, 1000000));
        x.crash(0);
        CHECK.badState("total when DOWN", () -> x.total(0, 0));
        CHECK.badArgument("acquirer 2 when DOWN", () -> x.total(2, 0));
    }

    private static void draftIsTheMessage() {
        PaymentSwitch x = Fixture.opened(30);
        Fixture.ask(x, 1, 0, 100);
        x.present(1, 2, 3, 4);
        CHECK.yes("present drafts APPROVAL", x.omit(38));
        CHECK.no("present drafts no TERMINAL", x.omit(41));
        x.undo(1, false, 2, 5);
        CHECK.yes("undo drafts REPLACEMENT", x.omit(95));
        CHECK.no("undo drafts no MODE", x.omit(3));
        x.total(0, 2);
        CHECK.yes("total drafts SUM", x.omit(86));
        CHECK.no("total drafts no CARD", x.omit(2));
        x.ask(0, 0, 2, 0, 3, 4, 5);
        CHECK.yes("ask drafts TERMINAL", x.omit(41));
        CHECK.same("compose the rest", x.compose(), 45);
    }
}
