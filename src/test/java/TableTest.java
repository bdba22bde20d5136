/** Promises 1 to 8: a new object, the constants, and the table. */
public final class TableTest {
    private static final Check CHECK = new Check();

    public static void main(String[] args) {
        constants();
        journalBounds();
        firstRules();
        acquirers();
        issuers();
        routes();
        routesAreLongestFirst();
        accounts();
        cards();
        hundredCards();
        rules();
        open();
        tableIsToldNoMore();
        CHECK.end();
    }

    private static void constants() {
        int[] got = {PaymentSwitch.NONE, PaymentSwitch.FULL, PaymentSwitch.CUT, PaymentSwitch.FAULT,
            PaymentSwitch.BAD, PaymentSwitch.NOWHERE, PaymentSwitch.ELSEWHERE, PaymentSwitch.DOUBLE,
            PaymentSwitch.STATE, PaymentSwitch.LATE, PaymentSwitch.MUCH};
        for (int i = 0; i < got.length; i++) {
            CHECK.same("constant " + i, got[i], -1 - i);
        }
    }

    private static int blocksOf(int journal) {
        PaymentSwitch x = new PaymentSwitch(journal);
        x.open();
        int n = 0;
        while (x.ticks(1) != PaymentSwitch.FULL) {
            n++;
        }
        return n;
    }

    private static void journalBounds() {
        CHECK.same("journal below 4", blocksOf(3), 4);
        CHECK.same("journal least int", blocksOf(Integer.MIN_VALUE), 4);
        CHECK.same("journal 4", blocksOf(4), 4);
        CHECK.same("journal 17", blocksOf(17), 17);
        CHECK.same("journal 30", blocksOf(30), 30);
        CHECK.same("journal above 30", blocksOf(31), 30);
        CHECK.same("journal most int", blocksOf(Integer.MAX_VALUE), 30);
        PaymentSwitch x = new PaymentSwitch(9);
        CHECK.same("tape at first", x.trim(0), 0);
        CHECK.same("answer at first", x.size(), 0);
        CHECK.no("down at first", x.isDown());
    }

    private static void firstRules() {
        PaymentSwitch x = Fixture.opened(30);
        for (int i = 1; i <= 5; i++) {
            CHECK.same("approval " + i, Fixture.ask(x, i, 0, 10), 0);
        }
        CHECK.same("MANY is 5", Fixture.ask(x, 6, 0, 10), 65);
        CHECK.same("HOLD is 100", x.payment(1, 3), 100);
        Fixture.present(x, 1, 7, 10, 0);
        x.charge(1, 1);
        CHECK.same("DISPUTE is 200", x.payment(1, 10), 200);
        x.ticks(50);
        CHECK.same("WINDOW is 50, in it", Fixture.ask(x, 8, 0, 10), 65);
        x.ticks(1);
        CHECK.same("WINDOW is 50, behind it", Fixture.ask(x, 9, 0, 10), 0);
    }

    private static void acquirers() {
        PaymentSwitch x = new PaymentSwitch(4);
        CHECK.badArgument("acquirer(-1)", () -> x.acquirer(-1));
        CHECK.badArgument("acquirer(1001)", () -> x.acquirer(1001));
        for (int i = 0; i < 6; i++) {
            CHECK.same("acquirer", x.acquirer(i % 2 * 1000), i);
        }
        CHECK.badState("acquirer 7", () -> x.acquirer(0));
        CHECK.badArgument("acquirer 7 with a bad fee", () -> x.acquirer(1001));
    }

    private static void issuers() {
        PaymentSwitch x = new PaymentSwitch(4);
        CHECK.badArgument("issuer(-1)", () -> x.issuer(-1));
        CHECK.badArgument("issuer(1001)", () -> x.issuer(1001));
        for (int i = 0; i < 6; i++) {
            CHECK.same("issuer", x.issuer(i % 2 * 1000), i);
        }
        CHECK.badState("issuer 7", () -> x.issuer(0));
        CHECK.badArgument("issuer 7 with a bad share", () -> x.issuer(-1));
    }

    private static void routes() {
        PaymentSwitch x = new PaymentSwitch(4);
        CHECK.badArgument("route to no issuer", () -> x.route(0, 1, 1));
        x.issuer(0);
        x.issuer(0);
        CHECK.badArgument("route to issuer -1", () -> x.route(-1, 1, 1));
        CHECK.badArgument("route to issuer 2", () -> x.route(2, 1, 1));
        CHECK.badArgument("route of no digits", () -> x.route(0, 0, 0));
        CHECK.badArgument("route of 9 digits", () -> x.route(0, 1, 9));
        CHECK.badArgument("route below 0", () -> x.route(0, -1, 8));
        CHECK.badArgument("route of more digits", () -> x.route(0, 10, 1));
        CHECK.badArgument("route of 9 in 8", () -> x.route(0, 100000000, 8));
        CHECK.same("a new route", x.route(0, 99999999, 8), -1);
        CHECK.same("a route led elsewhere", x.route(1, 99999999, 8), 0);
        CHECK.same("a route led there", x.route(1, 99999999, 8), 1);
        CHECK.same("0s in front make another row", x.route(0, 7, 1) + x.route(0, 7, 2), -2);
        for (int i = 3; i < 40; i++) {
            x.route(0, 100 + i, 3);
        }
        CHECK.badState("route 41", () -> x.route(0, 1, 1));
        CHECK.badArgument("route 41, below 0", () -> x.route(0, -1, 1));
        CHECK.same("instead of another one of 40", x.route(1, 103, 3), 0);
    }

    private static void routesAreLongestFirst() {
        PaymentSwitch x = new PaymentSwitch(4);
        x.issuer(0);
        x.issuer(0);
        x.issuer(0);
        x.account(0, 0, 0);
        x.account(1, 0, 0);
        x.account(2, 0, 0);
        x.route(2, 41000000, 8);
        x.route(0, 4, 1);
        x.route(1, 410, 3);
        CHECK.same("eight digits lead", x.card(Fixture.CARD_0, 1), PaymentSwitch.ELSEWHERE);
        CHECK.same("eight digits lead there", x.card(Fixture.CARD_0, 2), 0);
        CHECK.same("one digit leads", x.card(4000000000006L, 0), 1);
        x.route(1, 41000000, 8);
        CHECK.same("the route leads elsewhere now", x.card(Fixture.CARD_4, 2), PaymentSwitch.ELSEWHERE);
        CHECK.same("to issuer 1", x.card(Fixture.CARD_4, 1), 2);
    }

    private static void accounts() {
        PaymentSwitch x = new PaymentSwitch(4);
        CHECK.badArgument("account of no issuer", () -> x.account(0, 0, 0));
        x.issuer(0);
        long most = 1000000000000L;
        CHECK.badArgument("account of issuer -1", () -> x.account(-1, 0, 0));
        CHECK.badArgument("balance above", () -> x.account(0, most + 1, 0));
        CHECK.badArgument("balance below", () -> x.account(0, -most - 1, 0));
        CHECK.badArgument("minimum above", () -> x.account(0, 0, 1));
        CHECK.badArgument("minimum below", () -> x.account(0, 0, -most - 1));
        CHECK.same("account at its bounds", x.account(0, most, -most), 0);
        CHECK.same("account at its lower bounds", x.account(0, -most, 0), 1);
        for (int i = 2; i < 64; i++) {
            CHECK.same("account", x.account(0, i, -i), i);
        }
        CHECK.badState("account 65", () -> x.account(0, 0, 0));
        CHECK.badArgument("account 65 of no issuer", () -> x.account(1, 0, 0));
        x.open();
        CHECK.same("most FREE", x.funds(0, 3), 2 * most);
        CHECK.same("FREE below 0", x.funds(1, 3), -most);
        CHECK.same("balance", x.funds(63, 0), 63);
        CHECK.same("FREE", x.funds(63, 3), 126);
    }

    private static void cards() {
        PaymentSwitch x = Fixture.told(4);
        CHECK.badArgument("card of 11 digits", () -> x.card(99999999999L, 0));
        CHECK.badArgument("card of 19 digits", () -> x.card(1000000000000000009L, 0));
        CHECK.badArgument("card below 0", () -> x.card(-Fixture.CARD_0, 0));
        CHECK.badArgument("card of account -1", () -> x.card(Fixture.CARD_0, -1));
        CHECK.badArgument("card of account 4", () -> x.card(Fixture.CARD_0, 4));
        CHECK.same("BAD", x.card(410000000018L, 1), PaymentSwitch.BAD);
        CHECK.same("BAD ahead of NOWHERE", x.card(600000000016L, 1), PaymentSwitch.BAD);
        CHECK.same("NOWHERE", x.card(600000000015L, 0), PaymentSwitch.NOWHERE);
        CHECK.same("ELSEWHERE ahead of DOUBLE", x.card(Fixture.CARD_0, 1), PaymentSwitch.ELSEWHERE);
        CHECK.same("DOUBLE", x.card(Fixture.CARD_0, 3), PaymentSwitch.DOUBLE);
        CHECK.same("another digit", x.card(41000000000000004L, 3), 5);
        CHECK.same("12 digits", PaymentSwitch.NOWHERE, x.card(100000000008L, 0));
        CHECK.same("18 digits", PaymentSwitch.NOWHERE, x.card(100000000000000008L, 0));
    }

    private static void hundredCards() {
        PaymentSwitch x = new PaymentSwitch(4);
        x.issuer(0);
        x.route(0, 7, 1);
        x.account(0, 0, 0);
        for (int i = 0; i < 100; i++) {
            CHECK.same("card " + i, x.card(Fixture.good(70000000000L + i * 7919), 0), i);
        }
        CHECK.badState("card 101", () -> x.card(700000000005L, 0));
        CHECK.badState("card 101 is not asked whether it is GOOD", () -> x.card(700000000006L, 0));
        CHECK.badArgument("card 101 of 11 digits", () -> x.card(7L, 0));
    }

    private static void rules() {
        PaymentSwitch x = new PaymentSwitch(4);
        CHECK.badArgument("hold 0", () -> x.rules(0, 1, 1, 1));
        CHECK.badArgument("hold 5001", () -> x.rules(5001, 1, 1, 1));
        CHECK.badArgument("window 0", () -> x.rules(1, 0, 1, 1));
        CHECK.badArgument("window 5001", () -> x.rules(1, 5001, 1, 1));
        CHECK.badArgument("dispute 0", () -> x.rules(1, 1, 0, 1));
        CHECK.badArgument("dispute 5001", () -> x.rules(1, 1, 5001, 1));
        CHECK.badArgument("many 0", () -> x.rules(1, 1, 1, 0));
        CHECK.badArgument("many 9", () -> x.rules(1, 1, 1, 9));
        x.rules(5000, 5000, 5000, 8);
        x.rules(1, 1, 1, 1);
        PaymentSwitch y = Fixture.opened(30, 7, 3, 11, 2);
        Fixture.done(y, 10);
        CHECK.same("MANY 2, first", Fixture.ask(y, 3, 0, 1), 0);
        CHECK.same("MANY 2, third", Fixture.ask(y, 4, 0, 1), 65);
        CHECK.same("HOLD 7", y.payment(2, 3), 7);
        y.charge(1, 5);
        CHECK.same("DISPUTE 11", y.payment(1, 10), 11);
        y.ticks(4);
        CHECK.same("WINDOW 3", y.funds(0, 4), 0);
    }

    private static void open() {
        PaymentSwitch x = new PaymentSwitch(4);
        CHECK.badState("count in the TABLE", () -> x.count(0));
        x.open();
        CHECK.same("count when OPEN", x.count(0), 0);
        CHECK.badState("open again", x::open);
    }

    private static void tableIsToldNoMore() {
        PaymentSwitch x = Fixture.opened(4);
        for (int down = 0; down < 2; down++) {
            CHECK.badState("acquirer", () -> x.acquirer(0));
            CHECK.badState("issuer", () -> x.issuer(0));
            CHECK.badState("route", () -> x.route(0, 41, 2));
            CHECK.badState("account", () -> x.account(0, 0, 0));
            CHECK.badState("card", () -> x.card(Fixture.CARD_0, 0));
            CHECK.badState("rules", () -> x.rules(1, 1, 1, 1));
            CHECK.badState("open", x::open);
            CHECK.badArgument("acquirer(-1)", () -> x.acquirer(-1));
            CHECK.badArgument("issuer(-1)", () -> x.issuer(-1));
            CHECK.badArgument("route(3, 41, 2)", () -> x.route(3, 41, 2));
            CHECK.badArgument("account(3, 0, 0)", () -> x.account(3, 0, 0));
            CHECK.badArgument("card(1, 0)", () -> x.card(1, 0));
            CHECK.badArgument("rules(0, 1, 1, 1)", () -> x.rules(0, 1, 1, 1));
            if (down == 0) {
                x.crash(0);
            }
        }
    }
}
