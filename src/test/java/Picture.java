/** All that an object tells without a change, as one text: the same text is the same state. */
final class Picture {
    private interface Row {
        long ask(int which, int what);
    }

    private final PaymentSwitch x;
    private final StringBuilder out = new StringBuilder();

    private Picture(PaymentSwitch shown) {
        x = shown;
    }

    /** The tape and the last answer, too. */
    static String of(PaymentSwitch x) {
        return ofState(x) + "tape " + Fixture.tapeOf(x) + "\nanswer " + Fixture.answerOf(x);
    }

    static String ofState(PaymentSwitch x) {
        Picture picture = new Picture(x);
        picture.out.append("down ").append(x.isDown()).append('\n');
        if (picture.tell("count", 0, 6, (which, what) -> x.count(what))) {
            picture.tellRest();
        }
        return picture.out.toString();
    }

    private void tellRest() {
        int account = 0;
        while (tell("funds", account, 5, x::funds)) {
            account++;
        }
        int acquirer = 0;
        while (tell("acquired", acquirer, 4, x::acquired)) {
            acquirer++;
        }
        int issuer = 0;
        while (issuer < 6 && tell("issued", issuer, 2, x::issued)) {
            issuer++;
        }
        tell("issued", 6, 2, x::issued);
        int next = x.count(4);
        for (int number = 1; number < next; number++) {
            tell("payment", number, 11, x::payment);
        }
        out.append("audit ").append(x.audit()).append('\n');
    }

    // Whether there is such a thing.
    private boolean tell(String name, int which, int most, Row row) {
        try {
            for (int what = 0; what < most; what++) {
                out.append(name + " " + which + " " + what + " is " + row.ask(which, what) + "\n");
            }
            return true;
        } catch (IllegalArgumentException | IllegalStateException e) {
            return false;
        }
    }
}
