/** Tables, and shorthands for what many tests do. */
final class Fixture {
    static final long CARD_0 = 410000000019L;
    static final long CARD_1 = 41000000002000002L;
    static final long CARD_2 = 5200000000000007L;
    static final long CARD_3 = 419900000000007776L;
    static final long CARD_4 = 410000000027L;
    static final int[] KNOWN_FIELDS = {2, 3, 4, 11, 32, 37, 38, 39, 41, 49, 54, 70, 74, 86, 90, 95};
    static final int[] TYPES = {100, 101, 110, 220, 221, 230, 400, 401, 410, 420, 421, 430, 500, 501, 510, 800, 810};

    private Fixture() {
    }

    /** Two acquirers, three issuers, four accounts and five cards; RULES are those of a new object. */
    static PaymentSwitch told(int journal) {
        PaymentSwitch x = new PaymentSwitch(journal);
        x.acquirer(50);
        x.acquirer(120);
        x.issuer(100);
        x.issuer(30);
        x.issuer(0);
        x.route(0, 41, 2);
        x.route(1, 52, 2);
        x.route(2, 4199, 4);
        x.account(0, 10000, 0);
        x.account(1, 5000, -1000);
        x.account(2, 0, -500);
        x.account(0, -100, 0);
        x.card(CARD_0, 0);
        x.card(CARD_1, 0);
        x.card(CARD_2, 1);
        x.card(CARD_3, 2);
        x.card(CARD_4, 3);
        return x;
    }

    /** One acquirer, one issuer, the route of all numbers that begin with 4, one account, and card 0 of it. */
    static PaymentSwitch single(int fee, int share, long balance, long minimum) {
        PaymentSwitch x = new PaymentSwitch(30);
        x.acquirer(fee);
        x.issuer(share);
        x.route(0, 4, 1);
        x.account(0, balance, minimum);
        x.card(CARD_0, 0);
        x.open();
        return x;
    }

    static PaymentSwitch opened(int journal) {
        PaymentSwitch x = told(journal);
        x.open();
        return x;
    }

    static PaymentSwitch opened(int journal, int hold, int window, int dispute, int many) {
        PaymentSwitch x = told(journal);
        x.rules(hold, window, dispute, many);
        x.open();
        return x;
    }

    /** A request of acquirer 0 whose reference is its trace. */
    static int ask(PaymentSwitch x, int trace, int card, long amount) {
        x.ask(0, 0, trace, card, amount, 0, trace);
        return x.send();
    }

    static int present(PaymentSwitch x, int number, int trace, long amount, int mode) {
        x.present(number, trace, amount, mode);
        return x.send();
    }

    static boolean isIn(int v, int[] row) {
        for (int each : row) {
            if (each == v) {
                return true;
            }
        }
        return false;
    }

    static int sent(PaymentSwitch x) {
        x.compose();
        return x.send();
    }

    static int undo(PaymentSwitch x, int number, int trace, long left) {
        x.undo(number, false, trace, left);
        return x.send();
    }

    /** Payment 1 of account 0, DONE now with so much. */
    static void done(PaymentSwitch x, long amount) {
        ask(x, 1, 0, amount);
        present(x, 1, 2, amount, 0);
    }

    /** So many payments of acquirer 1 that are RELEASED and of no account, with snapshots where they are wanted. */
    static void advise(PaymentSwitch x, int payments) {
        int first = x.count(4);
        x.message(420);
        x.digits(2, 5);
        x.digits(32, 1);
        x.original(0, 0, 0);
        for (int i = 0; i < payments; i++) {
            if (i % 4 == 0) {
                x.checkpoint();
            }
            x.digits(11, first + i);
            x.letters(37, first + i, 0);
            sent(x);
        }
    }

    /** A snapshot, if the next call would find the journal full. */
    static void room(PaymentSwitch x) {
        if (x.count(2) >= 4) {
            x.checkpoint();
        }
    }

    /** Ticks until the journal is full: how many blocks were left. */
    static int fill(PaymentSwitch x) {
        int n = 0;
        while (n < 40 && x.ticks(1) != PaymentSwitch.FULL) {
            n++;
        }
        return n;
    }

    /** The GOOD number that these digits and one more make. */
    static long good(long front) {
        for (long number = front * 10; number < front * 10 + 10; number++) {
            if (isGood(number)) {
                return number;
            }
        }
        return 0;
    }

    static boolean isGood(long number) {
        String digits = String.valueOf(number);
        int sum = 0;
        for (int i = 0; i < digits.length(); i++) {
            int d = digits.charAt(digits.length() - 1 - i) - '0';
            sum += i % 2 == 0 ? d : d * 2 / 10 + d * 2 % 10;
        }
        return sum % 10 == 0;
    }

    /** Puts these bytes, two signs each, on the tape. */
    static void tape(PaymentSwitch x, String hex) {
        x.trim(x.trim(0));
        String signs = hex.replace(" ", "");
        for (int i = 0; i < signs.length(); i += 2) {
            x.feed(Integer.parseInt(signs.substring(i, i + 2), 16));
        }
    }

    static String tapeOf(PaymentSwitch x) {
        StringBuilder out = new StringBuilder();
        int n = x.trim(0);
        for (int i = 0; i < n; i++) {
            out.append(String.format("%02X", x.spoil(i, 0)));
        }
        return out.toString();
    }

    static String answerOf(PaymentSwitch x) {
        StringBuilder out = new StringBuilder();
        int n = x.size();
        for (int i = 0; i < n; i++) {
            out.append(String.format("%02X", x.byteAt(i)));
        }
        return out.toString();
    }

    static String hexOf(String letters) {
        StringBuilder out = new StringBuilder();
        for (int i = 0; i < letters.length(); i++) {
            out.append(String.format("%02X", (int) letters.charAt(i)));
        }
        return out.toString();
    }
}
