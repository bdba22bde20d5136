/** Sentences on edges of a new object and of the table: part 1 and promises 1 to 8. */
public final class EdgeTableTest {
    private static final long TRILLION = 1000000000000L;
    private static final int[] FAR = {-1, Integer.MIN_VALUE, Integer.MAX_VALUE};

    public static void main(String[] args) throws Exception {
        Sentences.run(EdgeTableTest.class);
    }

    /** One issuer, the route of all numbers that begin with 4, and so many accounts of 1000. */
    private static PaymentSwitch small(int accounts) {
        PaymentSwitch x = new PaymentSwitch(30);
        x.acquirer(0);
        x.issuer(0);
        x.route(0, 4, 1);
        for (int i = 0; i < accounts; i++) {
            x.account(0, 1000, 0);
        }
        return x;
    }

    // ---- promise 1

    @Sentence("An empty table")
    static void nothingIsToldAtFirst(Check check) {
        PaymentSwitch x = new PaymentSwitch(10);
        check.badArgument("route", () -> x.route(0, 4, 1));
        check.badArgument("account", () -> x.account(0, 0, 0));
        check.badArgument("card", () -> x.card(Fixture.CARD_0, 0));
        check.badArgument("ask", () -> x.ask(0, 0, 0, 0, 0, 0, 0));
        x.open();
        check.badArgument("funds", () -> x.funds(0, 0));
        check.badArgument("acquired", () -> x.acquired(0, 0));
        check.badArgument("issued", () -> x.issued(0, 0));
        check.badArgument("block", () -> x.block(0, true));
        check.same("a snapshot of nothing", x.checkpoint(), 1);
    }

    @Sentence("an empty tape")
    static void nothingIsOnTheTapeAtFirst(Check check) {
        PaymentSwitch x = new PaymentSwitch(10);
        check.same("bytes", x.trim(0), 0);
        check.badArgument("byte 0", () -> x.spoil(0, 0));
        check.same("its fault", x.fault(0) * 10 + x.fault(1), 10);
        check.same("the first byte", x.feed(8), 1);
    }

    private static int blocksOf(int journal) {
        PaymentSwitch x = new PaymentSwitch(journal);
        x.open();
        return Fixture.fill(x);
    }

    @Sentence("a journal of so many blocks")
    static void journalFromFourToThirty(Check check) {
        for (int blocks = 4; blocks <= 30; blocks++) {
            check.same("blocks", blocksOf(blocks), blocks);
        }
    }

    @Sentence("below 4 counts as 4")
    static void journalBelowFour(Check check) {
        int[] below = {3, 2, 1, 0, -1, -30, Integer.MIN_VALUE};
        for (int journal : below) {
            check.same("blocks of " + journal, blocksOf(journal), 4);
        }
    }

    @Sentence("above 30 as 30")
    static void journalAboveThirty(Check check) {
        int[] above = {31, 32, 1000, Integer.MAX_VALUE};
        for (int journal : above) {
            check.same("blocks of " + journal, blocksOf(journal), 30);
        }
    }

    @Sentence("RULES are 100, 50, 200 and 5")
    static void firstHold(Check check) {
        PaymentSwitch x = Fixture.opened(30);
        Fixture.ask(x, 1, 0, 10);
        check.same("until", x.payment(1, 3), 100);
        x.ticks(99);
        check.same("HELD in tick 99", x.payment(1, 0), 1);
        x.ticks(1);
        check.same("RELEASED in tick 100", x.payment(1, 0), 2);
    }

    @Sentence("RULES are 100, 50, 200 and 5")
    static void firstWindow(Check check) {
        PaymentSwitch x = Fixture.opened(30);
        Fixture.ask(x, 1, 0, 10);
        x.ticks(50);
        check.same("counted 50 ticks later", x.funds(0, 4), 1);
        x.ticks(1);
        check.same("not 51 ticks later", x.funds(0, 4), 0);
    }

    @Sentence("RULES are 100, 50, 200 and 5")
    static void firstDispute(Check check) {
        PaymentSwitch x = Fixture.opened(30);
        Fixture.done(x, 10);
        x.ticks(200);
        check.same("not LATE 200 ticks later", x.charge(1, 11), PaymentSwitch.MUCH);
        x.ticks(1);
        check.same("LATE 201 ticks later", x.charge(1, 11), PaymentSwitch.LATE);
    }

    @Sentence("RULES are 100, 50, 200 and 5")
    static void firstMany(Check check) {
        PaymentSwitch x = Fixture.opened(30);
        for (int i = 1; i <= 5; i++) {
            check.same("approval " + i, Fixture.ask(x, i, 0, 10), 0);
        }
        check.same("approval 6", Fixture.ask(x, 6, 0, 10), 65);
    }

    @Sentence("`NONE = -1`, `FULL = -2`, `CUT = -3`, `FAULT = -4`, `BAD = -5`, `NOWHERE = -6`, `ELSEWHERE = -7`, "
            + "`DOUBLE = -8`, `STATE = -9`, `LATE = -10`, `MUCH = -11`")
    static void constants(Check check) {
        int[] got = {PaymentSwitch.NONE, PaymentSwitch.FULL, PaymentSwitch.CUT, PaymentSwitch.FAULT,
            PaymentSwitch.BAD, PaymentSwitch.NOWHERE, PaymentSwitch.ELSEWHERE, PaymentSwitch.DOUBLE,
            PaymentSwitch.STATE, PaymentSwitch.LATE, PaymentSwitch.MUCH};
        for (int i = 0; i < got.length; i++) {
            check.same("constant " + i, got[i], -1 - i);
        }
    }

    // ---- promises 2 and 3

    @Sentence("ACQUIRERS 0 .. 5 and ISSUERS 0 .. 5")
    static void sixOfEach(Check check) {
        PaymentSwitch x = new PaymentSwitch(4);
        for (int i = 0; i < 6; i++) {
            check.same("acquirer", x.acquirer(i), i);
            check.same("issuer", x.issuer(i), i);
        }
        x.open();
        check.same("acquirer 5 is told of", x.acquired(5, 0), 0);
        check.same("issuer 5 is told of", x.issued(5, 0), 0);
        check.badArgument("acquirer 6", () -> x.acquired(6, 0));
    }

    @Sentence("An acquirer with its FEE: its number. Illegal argument: it is not 0 .. 1000")
    static void fees(Check check) {
        PaymentSwitch x = new PaymentSwitch(4);
        for (int fee : FAR) {
            check.badArgument("fee " + fee, () -> x.acquirer(fee));
        }
        check.badArgument("fee 1001", () -> x.acquirer(1001));
        check.same("fee 0", x.acquirer(0), 0);
        check.same("fee 1000", x.acquirer(1000), 1);
    }

    @Sentence("illegal state: the table is told no more, or there are 6.")
    static void seventhAcquirer(Check check) {
        PaymentSwitch x = new PaymentSwitch(4);
        for (int i = 0; i < 6; i++) {
            x.acquirer(0);
        }
        check.badState("with 6", () -> x.acquirer(0));
        check.badArgument("with 6, the argument is asked first", () -> x.acquirer(-1));
        check.same("issuers are counted apart", x.issuer(0), 0);
        PaymentSwitch y = new PaymentSwitch(4);
        y.open();
        check.badState("the table is told no more", () -> y.acquirer(0));
        check.badArgument("then, too, the argument is asked first", () -> y.acquirer(1001));
    }

    @Sentence("An issuer with its SHARE: its number. Illegal argument; illegal state: likewise.")
    static void shares(Check check) {
        PaymentSwitch x = new PaymentSwitch(4);
        for (int share : FAR) {
            check.badArgument("share " + share, () -> x.issuer(share));
        }
        check.badArgument("share 1001", () -> x.issuer(1001));
        check.same("share 0", x.issuer(0), 0);
        check.same("share 1000", x.issuer(1000), 1);
    }

    @Sentence("An issuer with its SHARE: its number. Illegal argument; illegal state: likewise.")
    static void seventhIssuer(Check check) {
        PaymentSwitch x = new PaymentSwitch(4);
        for (int i = 0; i < 6; i++) {
            x.issuer(0);
        }
        check.badState("with 6", () -> x.issuer(0));
        check.badArgument("with 6, the argument is asked first", () -> x.issuer(1001));
        check.same("acquirers are counted apart", x.acquirer(0), 0);
        PaymentSwitch y = new PaymentSwitch(4);
        y.open();
        check.badState("the table is told no more", () -> y.issuer(0));
        check.badArgument("then, too, the argument is asked first", () -> y.issuer(-1));
    }

    @Sentence("each with a FEE or a SHARE in parts of 10000")
    static void mostFeeAndShare(Check check) {
        PaymentSwitch x = Fixture.single(1000, 1000, 1000, 0);
        Fixture.done(x, 1000);
        check.same("acquirer", x.acquired(0, 0), 800);
        check.same("issuer", x.issued(0, 0), -900);
        check.same("switch", x.issued(6, 0), 100);
    }

    @Sentence("each with a FEE or a SHARE in parts of 10000")
    static void noFeeAndShare(Check check) {
        PaymentSwitch x = Fixture.single(0, 0, 1000, 0);
        Fixture.done(x, 1000);
        check.same("acquirer", x.acquired(0, 0), 1000);
        check.same("issuer", x.issued(0, 0), -1000);
        check.same("switch", x.issued(6, 0), 0);
    }

    // ---- promise 4

    @Sentence("leads to an issuer, also instead of another one: to which it led, NONE")
    static void routeInsteadOfAnother(Check check) {
        PaymentSwitch x = new PaymentSwitch(4);
        x.issuer(0);
        x.issuer(0);
        check.same("a new one", x.route(1, 0, 1), PaymentSwitch.NONE);
        check.same("instead", x.route(0, 0, 1), 1);
        check.same("instead again", x.route(1, 0, 1), 0);
        check.same("the same", x.route(1, 0, 1), 1);
    }

    @Sentence("The row of digits, of so many, that prefix is (with 0s in front)")
    static void rowsWithZerosInFront(Check check) {
        PaymentSwitch x = small(1);
        check.same("04 is not 4", x.route(0, 4, 2), PaymentSwitch.NONE);
        check.same("004 is neither", x.route(0, 4, 3), PaymentSwitch.NONE);
        check.same("0 is not 00", x.route(0, 0, 1) + x.route(0, 0, 2), 2 * PaymentSwitch.NONE);
        PaymentSwitch y = new PaymentSwitch(4);
        y.issuer(0);
        y.account(0, 0, 0);
        y.route(0, 41, 3);
        check.same("041 does not lead 41", y.card(Fixture.CARD_0, 0), PaymentSwitch.NOWHERE);
    }

    @Sentence("digits are not 1 .. 8, or prefix has more, or is below 0")
    static void digitsOfRoutes(Check check) {
        PaymentSwitch x = new PaymentSwitch(4);
        x.issuer(0);
        for (int digits : FAR) {
            check.badArgument("of " + digits, () -> x.route(0, 0, digits));
        }
        check.badArgument("of 0", () -> x.route(0, 0, 0));
        check.badArgument("of 9", () -> x.route(0, 0, 9));
        int most = 0;
        for (int digits = 1; digits <= 8; digits++) {
            int d = digits;
            most = most * 10 + 9;
            int above = most + 1;
            check.same("all nines", x.route(0, most, digits), PaymentSwitch.NONE);
            check.same("all zeros", x.route(0, 0, digits), PaymentSwitch.NONE);
            check.badArgument("one digit more", () -> x.route(0, above, d));
            check.badArgument("most int", () -> x.route(0, Integer.MAX_VALUE, d));
            check.badArgument("below 0", () -> x.route(0, -1, d));
            check.badArgument("least int", () -> x.route(0, Integer.MIN_VALUE, d));
        }
    }

    @Sentence("there would be more than 40 routes (one that leads elsewhere then is no more)")
    static void fortyRoutes(Check check) {
        PaymentSwitch x = new PaymentSwitch(4);
        x.issuer(0);
        x.issuer(0);
        for (int i = 0; i < 40; i++) {
            check.same("route " + i, x.route(0, i, 2), PaymentSwitch.NONE);
        }
        check.badState("one more", () -> x.route(0, 40, 2));
        check.badState("one more, with other digits", () -> x.route(0, 0, 3));
        check.badArgument("the argument is asked first", () -> x.route(2, 40, 2));
        check.same("the first one leads elsewhere", x.route(1, 0, 2), 0);
        check.same("the last one, too", x.route(1, 39, 2), 0);
        check.same("and it did", x.route(0, 39, 2), 1);
        check.badState("still one more", () -> x.route(0, 40, 2));
    }

    @Sentence("there would be more than 40 routes (one that leads elsewhere then is no more)")
    static void allOfFortyRoutesLead(Check check) {
        PaymentSwitch x = new PaymentSwitch(30);
        x.acquirer(0);
        x.issuer(0);
        x.account(0, 1000, 0);
        for (int i = 0; i < 40; i++) {
            x.route(0, 10 + i, 2);
        }
        check.same("the last one leads", x.card(Fixture.good(49000000000L), 0), 0);
        check.same("the first one leads", x.card(Fixture.good(10000000000L), 0), 1);
        check.same("none of them leads", x.card(Fixture.good(50000000000L), 0), PaymentSwitch.NOWHERE);
        x.open();
        check.same("a request with a route", Fixture.ask(x, 1, 0, 1), 0);
        x.ask(0, 0, 2, 0, 1, 0, 2);
        x.digits(2, Fixture.good(50000000000L));
        check.same("a request without", Fixture.sent(x), 92);
    }

    @Sentence("illegal state: the table is told no more, or there would be more than 40 routes")
    static void routesWhenOpen(Check check) {
        PaymentSwitch x = Fixture.opened(4);
        check.badState("a new one", () -> x.route(0, 9, 1));
        check.badState("instead of another", () -> x.route(0, 41, 2));
        check.badArgument("the argument is asked first", () -> x.route(0, 41, 1));
    }

    @Sentence("In all calls illegal argument: a number is out of its bounds, there is no such thing.")
    static void noSuchIssuer(Check check) {
        PaymentSwitch x = new PaymentSwitch(4);
        check.badArgument("route without issuers", () -> x.route(0, 4, 1));
        check.badArgument("account without issuers", () -> x.account(0, 0, 0));
        x.issuer(0);
        for (int issuer : FAR) {
            check.badArgument("route", () -> x.route(issuer, 4, 1));
            check.badArgument("account", () -> x.account(issuer, 0, 0));
        }
        check.badArgument("route to issuer 1", () -> x.route(1, 4, 1));
        check.badArgument("account of issuer 1", () -> x.account(1, 0, 0));
        check.badArgument("account of the switch", () -> x.account(6, 0, 0));
    }

    @Sentence("ROUTES: a row of 1 .. 8 digits leads to an issuer.")
    static void routesOfOneToEightDigits(Check check) {
        for (int digits = 1; digits <= 8; digits++) {
            PaymentSwitch x = new PaymentSwitch(4);
            x.issuer(0);
            x.account(0, 0, 0);
            x.route(0, Integer.parseInt("41234567".substring(0, digits)), digits);
            long same = Fixture.good(41234567000L);
            long other = Fixture.good(Long.parseLong("41234567".substring(0, digits - 1) + "9"
                    + "0".repeat(11 - digits)));
            check.same("another digit " + digits, x.card(other, 0), PaymentSwitch.NOWHERE);
            check.same("these " + digits, x.card(same, 0), 0);
        }
    }

    @Sentence("It is ROUTED to the issuer of the longest route that it begins with.")
    static void longerRoutesGoFirst(Check check) {
        PaymentSwitch x = new PaymentSwitch(4);
        for (int i = 0; i < 6; i++) {
            x.issuer(0);
            x.account(i, 0, 0);
        }
        for (int digits = 1; digits <= 8; digits++) {
            x.route(digits % 6, Integer.parseInt("41234567".substring(0, digits)), digits);
            long number = Fixture.good(41234567000L + digits);
            check.same("not the one before", x.card(number, (digits + 5) % 6), PaymentSwitch.ELSEWHERE);
            check.same("the longest", x.card(number, digits % 6), digits - 1);
        }
    }

    @Sentence("It is ROUTED to the issuer of the longest route that it begins with.")
    static void shorterRoutesToldLaterGoBehind(Check check) {
        PaymentSwitch x = new PaymentSwitch(4);
        x.issuer(0);
        x.issuer(0);
        x.account(0, 0, 0);
        x.route(0, 41234567, 8);
        for (int digits = 7; digits >= 1; digits--) {
            x.route(1, Integer.parseInt("41234567".substring(0, digits)), digits);
            check.same("still the longest", x.card(Fixture.good(41234567000L + digits), 0), 7 - digits);
        }
        x.route(1, 123, 3);
        check.same("a row within leads nowhere", x.card(Fixture.good(41234567900L), 0), 7);
    }

    @Sentence("(An account's issuer, and a card's account, stay what they were told as, whatever routes are told later; "
            + "positions are those of the account's issuer.)")
    static void routesToldLater(Check check) {
        PaymentSwitch x = Fixture.told(30);
        x.route(1, 41, 2);
        x.route(2, 41000000, 8);
        x.open();
        check.same("the card is found", Fixture.ask(x, 1, 0, 1000), 0);
        check.same("its account", x.payment(1, 5), 0);
        Fixture.present(x, 1, 2, 1000, 0);
        check.same("the account's issuer", x.issued(0, 0), -990);
        check.same("not that of one route", x.issued(1, 0), 0);
        check.same("nor that of the other", x.issued(2, 0), 0);
        x.charge(1, 100);
        check.same("charged to the account's issuer", x.issued(0, 0), -890);
    }

    // ---- promise 5

    @Sentence("ACCOUNTS 0 .. 63 of issuers")
    static void sixtyFourAccounts(Check check) {
        PaymentSwitch x = small(63);
        check.same("account 63", x.account(0, 77, -3), 63);
        check.same("its card", x.card(Fixture.CARD_0, 63), 0);
        x.open();
        check.same("its balance", x.funds(63, 0), 77);
        check.same("its FREE", x.funds(63, 3), 80);
        check.same("all of it", Fixture.ask(x, 1, 0, 80), 0);
        check.same("of account 63", x.payment(1, 5), 63);
        check.same("audit", x.audit(), 0);
    }

    @Sentence("the balance is not -10^12 .. 10^12")
    static void balances(Check check) {
        PaymentSwitch x = small(0);
        long[] out = {TRILLION + 1, -TRILLION - 1, Long.MAX_VALUE, Long.MIN_VALUE};
        for (long balance : out) {
            check.badArgument("balance " + balance, () -> x.account(0, balance, 0));
        }
        check.same("10^12", x.account(0, TRILLION, 0), 0);
        check.same("-10^12", x.account(0, -TRILLION, 0), 1);
        x.open();
        check.same("FREE of 10^12", x.funds(0, 3), TRILLION);
        check.same("FREE of -10^12", x.funds(1, 3), -TRILLION);
    }

    @Sentence("the minimum not -10^12 .. 0")
    static void minimums(Check check) {
        PaymentSwitch x = small(0);
        long[] out = {1, -TRILLION - 1, Long.MAX_VALUE, Long.MIN_VALUE};
        for (long minimum : out) {
            check.badArgument("minimum " + minimum, () -> x.account(0, 0, minimum));
        }
        check.same("0", x.account(0, 0, 0), 0);
        check.same("-10^12", x.account(0, TRILLION, -TRILLION), 1);
        x.open();
        check.same("FREE of 0", x.funds(0, 3), 0);
        check.same("most FREE", x.funds(1, 3), 2 * TRILLION);
    }

    @Sentence("illegal state: the table is told no more, or there are 64.")
    static void accountSixtyFive(Check check) {
        PaymentSwitch x = small(64);
        check.badState("with 64", () -> x.account(0, 0, 0));
        check.badArgument("the argument is asked first", () -> x.account(0, 0, 1));
        PaymentSwitch y = small(1);
        y.open();
        check.badState("the table is told no more", () -> y.account(0, 0, 0));
        check.badArgument("then, too, the argument is asked first", () -> y.account(0, TRILLION + 1, 0));
    }

    // ---- promise 6

    @Sentence("(the first is not 0)")
    static void numbersThatBeginWithZero(Check check) {
        PaymentSwitch x = small(1);
        x.route(0, 0, 1);
        check.badArgument("eleven digits behind a 0", () -> x.card(Long.parseLong("041000000000"), 0));
        x.card(Fixture.CARD_0, 0);
        x.open();
        check.same("a 0 in front of a card", Wire.request(100, 0, 1).digits(2, "0410000000019").send(x), 14);
        check.same("the card", Wire.request(100, 0, 2).send(x), 0);
    }

    @Sentence("each with a NUMBER of 12 .. 18 digits")
    static void numbersOfTwelveToEighteenDigits(Check check) {
        PaymentSwitch x = small(1);
        long front = 40000000000L;
        for (int digits = 12; digits <= 18; digits++) {
            check.same("digits " + digits, x.card(Fixture.good(front), 0), digits - 12);
            front *= 10;
        }
        x.open();
        for (int card = 0; card < 5; card++) {
            check.same("request", Fixture.ask(x, card + 1, card, 1), 0);
        }
    }

    @Sentence("Illegal argument: the number has not 12 .. 18 digits")
    static void numbersOfOtherDigits(Check check) {
        PaymentSwitch x = small(1);
        long[] out = {0, 4, -1, 99999999999L, 1000000000000000000L, 4000000000000000006L, -Fixture.CARD_0,
            Long.MAX_VALUE, Long.MIN_VALUE};
        for (long number : out) {
            check.badArgument("number " + number, () -> x.card(number, 0));
        }
        check.same("the least of 12 digits", x.card(100000000000L, 0), PaymentSwitch.BAD);
        check.same("the most of 18 digits", x.card(999999999999999999L, 0), PaymentSwitch.BAD);
    }

    @Sentence("In all calls illegal argument: a number is out of its bounds, there is no such thing.")
    static void noSuchAccount(Check check) {
        PaymentSwitch x = small(2);
        for (int account : FAR) {
            check.badArgument("account " + account, () -> x.card(Fixture.CARD_0, account));
        }
        check.badArgument("account 2", () -> x.card(Fixture.CARD_0, 2));
        check.badArgument("account 2, and not GOOD", () -> x.card(Fixture.CARD_0 + 1, 2));
        check.same("account 1", x.card(Fixture.CARD_0, 1), 0);
    }

    @Sentence("A number is GOOD if the sum of its digits is a multiple of 10")
    static void oneDigitMakesItBad(Check check) {
        long[] numbers = {Fixture.CARD_0, Fixture.good(4999999999999999L)};
        for (long number : numbers) {
            String digits = String.valueOf(number);
            for (int i = 1; i < digits.length(); i++) {
                char other = digits.charAt(i) == '9' ? '0' : (char) (digits.charAt(i) + 1);
                long wrong = Long.parseLong(digits.substring(0, i) + other + digits.substring(i + 1));
                check.same("number " + wrong, small(1).card(wrong, 0), PaymentSwitch.BAD);
            }
            check.same("number " + number, small(1).card(number, 0), 0);
        }
    }

    @Sentence("where from the second last digit on to the left every second digit is doubled, less 9 if that is above 9")
    static void doubledDigits(Check check) {
        for (int digit = 0; digit <= 9; digit++) {
            int doubled = digit * 2 > 9 ? digit * 2 - 9 : digit * 2;
            // The 4 in front is doubled in numbers of 12 digits, and is not in those of 13.
            int lastOfTwelve = (20 - 8 - doubled + 10) % 10;
            int lastOfThirteen = (20 - 4 - doubled) % 10;
            for (int last = 0; last <= 9; last++) {
                long twelve = 400000000000L + digit * 10 + last;
                long thirteen = 4000000000000L + digit * 10 + last;
                check.same("number " + twelve, small(1).card(twelve, 0), last == lastOfTwelve ? 0 : PaymentSwitch.BAD);
                check.same("number " + thirteen, small(1).card(thirteen, 0),
                        last == lastOfThirteen ? 0 : PaymentSwitch.BAD);
            }
        }
    }

    @Sentence("BAD: it is not GOOD")
    static void badNumbers(Check check) {
        PaymentSwitch x = small(1);
        for (int last = 0; last <= 9; last++) {
            long number = 410000000010L + last;
            check.same("number " + number, x.card(number, 0), number == Fixture.CARD_0 ? 0 : PaymentSwitch.BAD);
        }
        check.same("no number went", x.card(Fixture.CARD_4, 0), 1);
    }

    @Sentence("NOWHERE: it has no route")
    static void nowhere(Check check) {
        PaymentSwitch x = new PaymentSwitch(4);
        x.issuer(0);
        x.account(0, 0, 0);
        check.same("without routes", x.card(Fixture.CARD_0, 0), PaymentSwitch.NOWHERE);
        x.route(0, 42, 2);
        x.route(0, 41000001, 8);
        check.same("with others", x.card(Fixture.CARD_0, 0), PaymentSwitch.NOWHERE);
    }

    @Sentence("ELSEWHERE: it is routed to another issuer than the account's")
    static void elsewhere(Check check) {
        PaymentSwitch x = Fixture.told(4);
        long number = Fixture.good(41999999999L);
        check.same("of issuer 2 by its longest route", x.card(number, 0), PaymentSwitch.ELSEWHERE);
        check.same("of issuer 2, an account of issuer 1", x.card(number, 1), PaymentSwitch.ELSEWHERE);
        check.same("an account of issuer 2", x.card(number, 2), 5);
    }

    @Sentence("DOUBLE: there is one with this number")
    static void doubles(Check check) {
        PaymentSwitch x = small(2);
        x.card(Fixture.CARD_0, 0);
        x.card(Fixture.CARD_4, 0);
        check.same("the first", x.card(Fixture.CARD_0, 0), PaymentSwitch.DOUBLE);
        check.same("the last", x.card(Fixture.CARD_4, 0), PaymentSwitch.DOUBLE);
        check.same("of another account", x.card(Fixture.CARD_4, 1), PaymentSwitch.DOUBLE);
        check.same("no number went", x.card(Fixture.good(41000000003L), 1), 2);
    }

    @Sentence("BAD: it is not GOOD; NOWHERE: it has no route; ELSEWHERE: it is routed to another issuer than the "
            + "account's; DOUBLE: there is one with this number.")
    static void whichIsAnsweredFirst(Check check) {
        PaymentSwitch x = Fixture.told(4);
        check.same("BAD and without a route", x.card(600000000016L, 0), PaymentSwitch.BAD);
        check.same("BAD and elsewhere", x.card(Fixture.CARD_2 + 1, 0), PaymentSwitch.BAD);
        check.same("elsewhere and DOUBLE", x.card(Fixture.CARD_2, 0), PaymentSwitch.ELSEWHERE);
        check.same("no number went", x.card(Fixture.good(41000000003L), 0), 5);
    }

    @Sentence("CARDS 0 .. 99 of accounts")
    static void hundredCards(Check check) {
        PaymentSwitch x = hundred();
        x.open();
        check.same("the last one", Fixture.ask(x, 1, 99, 1), 0);
        check.same("is blocked", x.block(99, true), 1);
        check.same("then", Fixture.ask(x, 2, 99, 1), 62);
        check.badArgument("block 100", () -> x.block(100, true));
        check.badArgument("ask 100", () -> x.ask(0, 0, 0, 100, 0, 0, 0));
        x.ask(0, 0, 3, 0, 1, 0, 3);
        x.digits(2, Fixture.good(49999999999L));
        check.same("none of them", Fixture.sent(x), 14);
    }

    private static PaymentSwitch hundred() {
        PaymentSwitch x = small(1);
        for (int i = 0; i < 100; i++) {
            x.card(Fixture.good(41000000000L + i), 0);
        }
        return x;
    }

    @Sentence("illegal state: the table is told no more, or there are 100.")
    static void cardHundredAndOne(Check check) {
        PaymentSwitch x = hundred();
        check.badState("with 100", () -> x.card(Fixture.good(42000000000L), 0));
        check.badArgument("the argument is asked first", () -> x.card(Fixture.good(42000000000L), 1));
        PaymentSwitch y = small(1);
        y.open();
        check.badState("the table is told no more", () -> y.card(Fixture.CARD_0, 0));
        check.badArgument("then, too, the argument is asked first", () -> y.card(1, 0));
    }

    @Sentence("Of several exceptions the one named first is thrown, before anything is answered (BAD and others)")
    static void exceptionsAheadOfAnswers(Check check) {
        PaymentSwitch x = hundred();
        check.badState("BAD, with 100", () -> x.card(420000000000L, 0));
        check.badState("NOWHERE, with 100", () -> x.card(600000000015L, 0));
        check.badState("DOUBLE, with 100", () -> x.card(Fixture.good(41000000000L), 0));
        PaymentSwitch y = Fixture.opened(4);
        check.badState("BAD, the table being told no more", () -> y.card(420000000000L, 0));
        check.badState("DOUBLE, the table being told no more", () -> y.card(Fixture.CARD_0, 0));
        check.badState("ELSEWHERE, the table being told no more", () -> y.card(Fixture.CARD_0, 1));
    }

    // ---- promise 7

    @Sentence("Illegal argument: hold, window, dispute are not 1 .. 5000, many not 1 .. 8")
    static void rulesOutOfBounds(Check check) {
        PaymentSwitch x = new PaymentSwitch(4);
        int[] out = {0, -1, 5001, Integer.MIN_VALUE, Integer.MAX_VALUE};
        for (int v : out) {
            check.badArgument("hold " + v, () -> x.rules(v, 1, 1, 1));
            check.badArgument("window " + v, () -> x.rules(1, v, 1, 1));
            check.badArgument("dispute " + v, () -> x.rules(1, 1, v, 1));
            check.badArgument("many " + v, () -> x.rules(1, 1, 1, v));
        }
        check.badArgument("many 9", () -> x.rules(1, 1, 1, 9));
    }

    @Sentence("Illegal argument: hold, window, dispute are not 1 .. 5000, many not 1 .. 8")
    static void leastRules(Check check) {
        PaymentSwitch x = Fixture.opened(30, 1, 1, 1, 1);
        Fixture.done(x, 10);
        check.same("MANY 1", Fixture.ask(x, 3, 0, 1), 65);
        x.ticks(1);
        check.same("DISPUTE 1", x.charge(1, 11), PaymentSwitch.MUCH);
        check.same("WINDOW 1", Fixture.ask(x, 4, 0, 1), 65);
        x.ticks(1);
        check.same("DISPUTE 1 is over", x.charge(1, 11), PaymentSwitch.LATE);
        check.same("WINDOW 1 is over", Fixture.ask(x, 5, 0, 1), 0);
        x.ticks(1);
        check.same("HOLD 1", x.payment(2, 0), 2);
    }

    @Sentence("Illegal argument: hold, window, dispute are not 1 .. 5000, many not 1 .. 8")
    static void mostRules(Check check) {
        PaymentSwitch x = Fixture.opened(30, 5000, 5000, 5000, 8);
        Fixture.done(x, 10);
        for (int i = 3; i <= 9; i++) {
            check.same("MANY 8", Fixture.ask(x, i, 0, 1), 0);
        }
        for (int i = 0; i < 5; i++) {
            x.ticks(i == 4 ? 999 : 1000);
        }
        check.same("HOLD 5000, in tick 4999", x.payment(2, 0), 1);
        x.ticks(1);
        check.same("HOLD 5000", x.payment(2, 0), 2);
        check.same("WINDOW 5000", Fixture.ask(x, 20, 0, 1), 65);
        check.same("DISPUTE 5000", x.charge(1, 11), PaymentSwitch.MUCH);
        x.ticks(1);
        check.same("WINDOW 5000 is over", Fixture.ask(x, 21, 0, 1), 0);
        check.same("DISPUTE 5000 is over", x.charge(1, 11), PaymentSwitch.LATE);
    }

    @Sentence("`void rules(int hold, int window, int dispute, int many) throws IllegalArgumentException, "
            + "IllegalStateException`: RULES.")
    static void rulesToldAgain(Check check) {
        PaymentSwitch x = Fixture.told(30);
        x.rules(1, 2, 3, 4);
        x.rules(5, 6, 7, 8);
        x.open();
        Fixture.ask(x, 1, 0, 1);
        check.same("the last ones count", x.payment(1, 3), 5);
    }

    @Sentence("many not 1 .. 8; illegal state: the table is told no more.")
    static void rulesWhenOpen(Check check) {
        PaymentSwitch x = Fixture.opened(4);
        check.badState("when OPEN", () -> x.rules(1, 1, 1, 1));
        check.badArgument("the argument is asked first", () -> x.rules(1, 1, 1, 9));
        x.crash(0);
        check.badState("when DOWN", () -> x.rules(1, 1, 1, 1));
        x.recover();
        Fixture.ask(x, 1, 0, 1);
        check.same("RULES stay", x.payment(1, 3), 100);
    }

    // ---- promise 8, and all of them

    @Sentence("It is OPEN from now on. Illegal state: the table is told no more.")
    static void openTwice(Check check) {
        PaymentSwitch x = new PaymentSwitch(4);
        check.badState("count before", () -> x.count(5));
        x.open();
        check.same("TIME is 0 at first", x.count(5), 0);
        check.badState("when OPEN", x::open);
        x.crash(0);
        check.badState("when DOWN", x::open);
        check.yes("it stays DOWN", x.isDown());
        x.recover();
        check.badState("behind recovery", x::open);
        check.same("it stays OPEN", x.count(5), 0);
    }

    @Sentence("a call that throws changes nothing")
    static void refusedCallsOfTheTable(Check check) {
        PaymentSwitch x = Fixture.told(8);
        PaymentSwitch y = Fixture.told(8);
        check.badArgument("acquirer", () -> x.acquirer(1001));
        check.badArgument("issuer", () -> x.issuer(1001));
        check.badArgument("route", () -> x.route(1, 41, 1));
        check.badArgument("route to none", () -> x.route(3, 41, 2));
        check.badArgument("account", () -> x.account(0, 5, 5));
        check.badArgument("card", () -> x.card(Fixture.good(41000000003L), 4));
        check.badArgument("rules", () -> x.rules(7, 7, 7, 9));
        check.badState("cutoff", x::cutoff);
        check.same("the next acquirer", x.acquirer(9), y.acquirer(9));
        check.same("the next issuer", x.issuer(9), y.issuer(9));
        check.same("the next account", x.account(0, 9, 0), y.account(0, 9, 0));
        check.same("the next card", x.card(Fixture.good(41000000003L), 0), y.card(Fixture.good(41000000003L), 0));
        check.same("where 41 leads", x.route(0, 41, 2), 0);
        x.open();
        y.open();
        Fixture.ask(x, 1, 5, 10);
        Fixture.ask(y, 1, 5, 10);
        check.text("all is the same", Picture.of(x), Picture.of(y));
    }

    @Sentence("a call that throws changes nothing")
    static void refusedCallsOfAFullTable(Check check) {
        PaymentSwitch x = hundred();
        check.badState("a card", () -> x.card(Fixture.good(42000000000L), 0));
        x.open();
        x.ask(0, 0, 1, 0, 1, 0, 1);
        x.digits(2, Fixture.good(42000000000L));
        check.same("it is none", Fixture.sent(x), 14);
        PaymentSwitch y = small(64);
        check.badState("an account", () -> y.account(0, 5, 0));
        y.open();
        check.badArgument("it is none", () -> y.funds(64, 0));
        check.same("accounts of a snapshot", y.checkpoint(), 9);
    }
}
