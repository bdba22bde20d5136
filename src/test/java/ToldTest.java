/** Promises 37 to 42: what is told. */
public final class ToldTest {
    private static final Check CHECK = new Check();

    public static void main(String[] args) {
        count();
        funds();
        eightAreCounted();
        payment();
        acquired();
        issued();
        wrongArguments();
        wrongStates();
        audit();
        CHECK.end();
    }

    private static void count() {
        PaymentSwitch x = Fixture.opened(30);
        int[] first = {0, 0, 0, 0, 1, 0};
        for (int what = 0; what < 6; what++) {
            CHECK.same("count(" + what + ") at first", x.count(what), first[what]);
        }
        Fixture.ask(x, 1, 0, 100);
        Fixture.ask(x, 2, 0, 99999);
        x.ticks(7);
        x.checkpoint();
        x.ticks(2);
        int[] then = {1, 2, 1, 8, 2, 9};
        for (int what = 0; what < 6; what++) {
            CHECK.same("count(" + what + ") then", x.count(what), then[what]);
        }
        x.crash(0);
        x.recover();
        CHECK.same("recovery takes none back", x.count(3), 8);
    }

    private static void funds() {
        PaymentSwitch x = Fixture.opened(30);
        x.ask(0, 0, 1, 2, 1000, 0, 1);
        x.send();
        x.ask(0, 0, 2, 2, 500, 0, 2);
        x.send();
        Fixture.present(x, 1, 3, 1000, 0);
        x.charge(1, 200);
        long[] due = {4200, 500, 200, 4500, 2};
        for (int what = 0; what < 5; what++) {
            CHECK.same("funds(1, " + what + ")", x.funds(1, what), due[what]);
        }
        CHECK.same("of another account", x.funds(0, 0), 10000);
        CHECK.same("FREE below 0", x.funds(3, 3), -100);
    }

    private static void eightAreCounted() {
        PaymentSwitch x = Fixture.opened(30, 100, 2, 5, 8);
        for (int i = 1; i <= 8; i++) {
            Fixture.ask(x, i, 0, 1);
        }
        CHECK.same("eight", x.funds(0, 4), 8);
        x.ticks(2);
        CHECK.same("WINDOW ticks ago", x.funds(0, 4), 8);
        x.ticks(1);
        CHECK.same("more", x.funds(0, 4), 0);
        for (int i = 11; i <= 13; i++) {
            Fixture.ask(x, i, 0, 1);
            x.ticks(1);
        }
        CHECK.same("of three, two or less ticks ago", x.funds(0, 4), 2);
    }

    private static void tell(PaymentSwitch x, String text, long... due) {
        for (int what = 0; what < due.length; what++) {
            CHECK.same(text + ", payment(1, " + what + ")", x.payment(1, what), due[what]);
        }
    }

    private static void payment() {
        PaymentSwitch x = Fixture.opened(30, 10, 50, 20, 8);
        x.ticks(3);
        x.ask(0, 1, 123456, 2, 1000, 0, 1);
        x.send();
        tell(x, "HELD", 1, 1000, 0, 13, -1, 1, 1, 123456, 0, 0, -1);
        Fixture.present(x, 1, 3, 400, 1);
        tell(x, "some cleared", 1, 600, 400, 13, -1, 1, 1, 123456, 0, 0, -1);
        x.ticks(11);
        tell(x, "DONE", 3, 0, 400, 0, 13, 1, 1, 123456, 0, 0, -1);
        x.charge(1, 300);
        tell(x, "CHARGED", 3, 0, 400, 0, 13, 1, 1, 123456, 1, 300, 34);
        x.ticks(1);
        x.represent(1);
        tell(x, "REPRESENTED", 3, 0, 400, 0, 13, 1, 1, 123456, 2, 300, 35);
        x.decide(1, false);
        tell(x, "LOST", 3, 0, 400, 0, 13, 1, 1, 123456, 4, 300, -1);
        PaymentSwitch y = Fixture.opened(30);
        Fixture.ask(y, 7, 0, 5);
        Fixture.undo(y, 1, 8, 0);
        tell(y, "RELEASED", 2, 0, 0, 0, -1, 0, 0, 7, 0, 0, -1);
    }

    private static void acquired() {
        PaymentSwitch x = Fixture.opened(30);
        x.ask(0, 1, 1, 2, 1000, 0, 1);
        x.send();
        Fixture.present(x, 1, 2, 1000, 0);
        x.cutoff();
        x.charge(1, 1);
        long[] due = {-1, 985, 1, 1000};
        for (int what = 0; what < 4; what++) {
            CHECK.same("acquired(1, " + what + ")", x.acquired(1, what), due[what]);
            CHECK.same("acquired(0, " + what + ")", x.acquired(0, what), 0);
        }
    }

    private static void issued() {
        PaymentSwitch x = Fixture.opened(30);
        x.ask(0, 1, 1, 2, 1000, 0, 1);
        x.send();
        Fixture.present(x, 1, 2, 1000, 0);
        x.cutoff();
        x.charge(1, 1);
        CHECK.same("issued(1, 0)", x.issued(1, 0), 1);
        CHECK.same("issued(1, 1)", x.issued(1, 1), -997);
        CHECK.same("issued(6, 0)", x.issued(6, 0), 0);
        CHECK.same("issued(6, 1)", x.issued(6, 1), 12);
        CHECK.same("issued(0, 1)", x.issued(0, 1), 0);
        PaymentSwitch y = new PaymentSwitch(4);
        y.open();
        CHECK.same("the switch without issuers", y.issued(6, 0), 0);
        CHECK.badArgument("no issuers", () -> y.issued(0, 0));
    }

    private static void wrongArguments() {
        PaymentSwitch x = Fixture.told(30);
        for (int state = 0; state < 3; state++) {
            CHECK.badArgument("count(-1)", () -> x.count(-1));
            CHECK.badArgument("count(6)", () -> x.count(6));
            CHECK.badArgument("funds(-1, 0)", () -> x.funds(-1, 0));
            CHECK.badArgument("funds(4, 0)", () -> x.funds(4, 0));
            CHECK.badArgument("funds(0, -1)", () -> x.funds(0, -1));
            CHECK.badArgument("funds(0, 5)", () -> x.funds(0, 5));
            CHECK.badArgument("payment(1, -1)", () -> x.payment(1, -1));
            CHECK.badArgument("payment(1, 11)", () -> x.payment(1, 11));
            CHECK.badArgument("acquired(-1, 0)", () -> x.acquired(-1, 0));
            CHECK.badArgument("acquired(2, 0)", () -> x.acquired(2, 0));
            CHECK.badArgument("acquired(6, 0)", () -> x.acquired(6, 0));
            CHECK.badArgument("acquired(0, -1)", () -> x.acquired(0, -1));
            CHECK.badArgument("acquired(0, 4)", () -> x.acquired(0, 4));
            CHECK.badArgument("issued(-1, 0)", () -> x.issued(-1, 0));
            CHECK.badArgument("issued(3, 0)", () -> x.issued(3, 0));
            CHECK.badArgument("issued(7, 0)", () -> x.issued(7, 0));
            CHECK.badArgument("issued(6, -1)", () -> x.issued(6, -1));
            CHECK.badArgument("issued(6, 2)", () -> x.issued(6, 2));
            if (state == 0) {
                x.open();
                CHECK.badArgument("payment(1, 0) of none", () -> x.payment(1, 0));
                Fixture.ask(x, 1, 0, 1);
                CHECK.badArgument("payment(0, 0)", () -> x.payment(0, 0));
                CHECK.badArgument("payment(2, 0)", () -> x.payment(2, 0));
            } else if (state == 1) {
                x.crash(0);
            }
        }
    }

    private static void wrongStates() {
        PaymentSwitch x = Fixture.told(30);
        CHECK.badArgument("there is no payment in the TABLE", () -> x.payment(1, 0));
        for (int state = 0; state < 2; state++) {
            CHECK.badState("count", () -> x.count(0));
            CHECK.badState("funds", () -> x.funds(0, 0));
            CHECK.badState("acquired", () -> x.acquired(0, 0));
            CHECK.badState("issued", () -> x.issued(0, 0));
            CHECK.badState("issued of the switch", () -> x.issued(6, 0));
            CHECK.badState("audit", x::audit);
            if (state == 0) {
                x.open();
                x.crash(0);
            }
        }
        CHECK.badState("payment when DOWN", () -> x.payment(1, 0));
        CHECK.badState("payment -1 when DOWN", () -> x.payment(-1, 10));
    }

    private static void audit() {
        PaymentSwitch x = Fixture.opened(30);
        CHECK.same("an account told below its minimum is as it was told", x.audit(), 0);
        Fixture.done(x, 1000);
        x.charge(1, 500);
        Fixture.ask(x, 5, 2, 6000);
        CHECK.same("with a hold and a dispute", x.audit(), 0);
        x.cutoff();
        CHECK.same("behind a cutoff", x.audit(), 0);
    }
}
