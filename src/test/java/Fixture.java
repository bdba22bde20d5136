/** Tables, and shorthands for what many tests do. */
final class Fixture {
    static final long CARD_0 = 410000000019L;
    static final long CARD_1 = 41000000002000002L;
    static final long CARD_2 = 5200000000000007L;
    static final long CARD_3 = 419900000000007776L;
    static final long CARD_4 = 410000000027L;

    private Fixture() {
    }

    /** Two acquirers, three issuers, four accounts and five cards; RULES are those of a new object. */
    static PaymentSwitch told(int journal) {
        PaymentSwitch x = new PaymentSwitch(journal);
        x.acquirer(50);
        x.acquirer(120);
        x.issuer(100);
        x.issuer(30);
        x.issuer(0);
        x.route(0, 41, 2);
        x.route(1, 52, 2);
        x.route(2, 4199, 4);
        x.account(0, 10000, 0);
        x.account(1, 5000, -1000);
        x.account(2, 0, -500);
        x.account(0, -100, 0);
        x.card(CARD_0, 0);
        x.card(CARD_1, 0);
        x.card(CARD_2, 1);
        x.card(CARD_3, 2);
        x.card(CARD_4, 3);
        return x;
    }

    static PaymentSwitch opened(int journal) {
        PaymentSwitch x = told(journal);
        x.open();
        return x;
    }

    static PaymentSwitch opened(int journal, int hold, int window, int dispute, int many) {
        PaymentSwitch x = told(journal);
        x.rules(hold, window, dispute, many);
        x.open();
        return x;
    }

    /** A request of acquirer 0 whose reference is its trace. */
    static int ask(PaymentSwitch x, int trace, int card, long amount) {
        x.ask(0, 0, trace, card, amount, 0, trace);
        return x.send();
    }

    static int present(PaymentSwitch x, int number, int trace, long amount, int mode) {
        x.present(number, trace, amount, mode);
        return x.send();
    }

    static int undo(PaymentSwitch x, int number, int trace, long left) {
        x.undo(number, false, trace, left);
        return x.send();
    }

    /** Payment 1 of account 0, DONE now with so much. */
    static void done(PaymentSwitch x, long amount) {
        ask(x, 1, 0, amount);
        present(x, 1, 2, amount, 0);
    }

    /** Puts these bytes, two signs each, on the tape. */
    static void tape(PaymentSwitch x, String hex) {
        x.message(800);
        x.trim(x.compose());
        String signs = hex.replace(" ", "");
        for (int i = 0; i < signs.length(); i += 2) {
            x.feed(Integer.parseInt(signs.substring(i, i + 2), 16));
        }
    }

    static String tapeOf(PaymentSwitch x) {
        StringBuilder out = new StringBuilder();
        int n = x.trim(0);
        for (int i = 0; i < n; i++) {
            out.append(String.format("%02X", x.spoil(i, 0)));
        }
        return out.toString();
    }

    static String answerOf(PaymentSwitch x) {
        StringBuilder out = new StringBuilder();
        for (int i = 0; i < x.size(); i++) {
            out.append(String.format("%02X", x.byteAt(i)));
        }
        return out.toString();
    }

    static String hexOf(String letters) {
        StringBuilder out = new StringBuilder();
        for (int i = 0; i < letters.length(); i++) {
            out.append(String.format("%02X", (int) letters.charAt(i)));
        }
        return out.toString();
    }
}
