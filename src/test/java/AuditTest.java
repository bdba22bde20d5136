import java.lang.reflect.Array;
import java.lang.reflect.Field;

/** Promise 42: what audit counts never comes by calls, so it is put into the object from outside. */
public final class AuditTest {
    private static final Check CHECK = new Check();

    public static void main(String[] args) throws ReflectiveOperationException {
        freeBelowZero();
        freeToldBelowZero();
        positions();
        settled();
        heldIsNotThatOfPayments();
        lockedIsNotThatOfPayments();
        lessThanNothingIsHeld();
        CHECK.end();
    }

    private static Object get(Object o, String field) throws ReflectiveOperationException {
        Field f = o.getClass().getDeclaredField(field);
        f.setAccessible(true);
        return f.get(o);
    }

    private static void add(Object o, String field, long amount) throws ReflectiveOperationException {
        Field f = o.getClass().getDeclaredField(field);
        f.setAccessible(true);
        f.setLong(o, f.getLong(o) + amount);
    }

    private static Object account(PaymentSwitch x, int i) throws ReflectiveOperationException {
        return Array.get(get(get(x, "table"), "accountRows"), i);
    }

    private static long[] row(PaymentSwitch x, String name) throws ReflectiveOperationException {
        return (long[]) get(get(get(x, "book"), "positions"), name);
    }

    private static void freeBelowZero() throws ReflectiveOperationException {
        PaymentSwitch x = Fixture.opened(4);
        add(account(x, 0), "balance", -10000);
        CHECK.same("FREE is 0", x.audit(), 0);
        add(account(x, 0), "balance", -1);
        CHECK.same("FREE is below 0", x.audit(), 1);
        add(account(x, 1), "balance", -6001);
        CHECK.same("twice", x.audit(), 2);
        PaymentSwitch y = new PaymentSwitch(4);
        y.issuer(0);
        y.account(0, -100, -40);
        y.open();
        CHECK.same("60 below its minimum, as told", y.audit(), 0);
        add(account(y, 0), "balance", -1);
        CHECK.same("61 below it", y.audit(), 1);
    }

    private static void freeToldBelowZero() throws ReflectiveOperationException {
        PaymentSwitch x = Fixture.opened(4);
        add(account(x, 3), "balance", 50);
        CHECK.same("FREE is below 0, but more", x.audit(), 0);
        add(account(x, 3), "balance", -51);
        CHECK.same("FREE is below 0, and less", x.audit(), 1);
    }

    private static void positions() throws ReflectiveOperationException {
        PaymentSwitch x = Fixture.opened(4);
        row(x, "acquirer")[1]++;
        CHECK.same("positions", x.audit(), 1);
        row(x, "issuer")[6]--;
        CHECK.same("whose sum is 0", x.audit(), 0);
    }

    private static void settled() throws ReflectiveOperationException {
        PaymentSwitch x = Fixture.opened(4);
        row(x, "issuerSettled")[2]++;
        CHECK.same("settled", x.audit(), 1);
        row(x, "issuer")[2]++;
        CHECK.same("settled, and positions", x.audit(), 2);
        row(x, "acquirerSettled")[0]--;
        CHECK.same("positions", x.audit(), 1);
    }

    private static void heldIsNotThatOfPayments() throws ReflectiveOperationException {
        PaymentSwitch x = Fixture.opened(4);
        Fixture.ask(x, 1, 0, 100);
        add(account(x, 0), "held", 1);
        add(account(x, 1), "held", 1);
        CHECK.same("held of two accounts", x.audit(), 2);
    }

    private static void lockedIsNotThatOfPayments() throws ReflectiveOperationException {
        PaymentSwitch x = Fixture.opened(4);
        Fixture.done(x, 100);
        x.charge(1, 50);
        CHECK.same("locked", x.audit(), 0);
        add(account(x, 0), "locked", -1);
        CHECK.same("less locked", x.audit(), 1);
        add(account(x, 0), "held", 1);
        CHECK.same("held, too, of the same account", x.audit(), 1);
    }

    private static void lessThanNothingIsHeld() throws ReflectiveOperationException {
        PaymentSwitch x = Fixture.opened(4);
        Fixture.ask(x, 1, 0, 100);
        add(Array.get(get(get(x, "book"), "payments"), 0), "held", -101);
        add(account(x, 0), "held", -101);
        CHECK.same("of a payment", x.audit(), 1);
    }
}
