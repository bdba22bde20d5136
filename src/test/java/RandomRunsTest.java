import java.util.Random;

/**
 * Runs of calls that are drawn by a fixed seed. Two objects get the same calls; of one the power fails now and
 * then: both must always tell the same. No call throws what the document does not name.
 */
public final class RandomRunsTest {
    private static final Check CHECK = new Check();
    private static final long THROWN = Long.MIN_VALUE;
    // So few that an object has less than 512 calls, those that tell its state at the end with them.
    private static final int STEPS = 45;
    private static final int[] EDGES = {-2, -1, 0, 1, 2, 3, 5, 6, 7, 8, 12, 60, 100, 400, 999, 1000, 1001, 9999,
        10000, 999999, 1000000, 1000000001, Integer.MAX_VALUE, Integer.MIN_VALUE};

    private final Random random;
    private final PaymentSwitch steady;
    private final PaymentSwitch shaky;
    private int trace;
    private int failures;

    private RandomRunsTest(int seed) {
        random = new Random(seed);
        int journal = 4 + random.nextInt(27);
        int hold = 1 + random.nextInt(60);
        int window = 1 + random.nextInt(30);
        int dispute = 1 + random.nextInt(40);
        int many = 1 + random.nextInt(8);
        steady = Fixture.opened(journal, hold, window, dispute, many);
        shaky = Fixture.opened(journal, hold, window, dispute, many);
    }

    public static void main(String[] args) {
        for (int seed = 1; seed <= 800; seed++) {
            new RandomRunsTest(seed).run("run " + seed);
        }
        for (int seed = 1; seed <= 100; seed++) {
            new RandomRunsTest(seed).runWild();
        }
        CHECK.end();
    }

    private void run(String name) {
        for (int i = 0; i < STEPS; i++) {
            if (random.nextInt(12) == 0) {
                checkpoint(name);
            } else {
                step(name + ", call " + i);
            }
        }
        CHECK.text(name + ", state", told(shaky), told(steady));
        CHECK.same(name + ", audit", steady.audit(), 0);
    }

    private void step(String name) {
        int[] drawn = draw();
        boolean isMessage = drawn[0] <= 5;
        boolean fails = failures < 30 && random.nextInt(8) == 0;
        if (fails) {
            shaky.crash(1);
        }
        long due = call(steady, drawn);
        long got = call(shaky, drawn);
        if (shaky.isDown()) {
            CHECK.same(name + ", cut", got, PaymentSwitch.CUT);
            CHECK.same(name + ", no answer", isMessage ? shaky.size() : 0, 0);
            shaky.recover();
            failures++;
            got = isMessage ? shaky.send() : due;
        } else if (fails) {
            shaky.crash(PaymentSwitch.NONE);
        }
        CHECK.same(name, got, due);
        CHECK.same(name + ", size of the answer", shaky.size(), steady.size());
    }

    private void checkpoint(String name) {
        int n = 1 + random.nextInt(40);
        int before = shaky.count(2);
        int written = shaky.count(3);
        if (failures >= 30) {
            CHECK.same(name + ", checkpoint", shaky.checkpoint(), steady.checkpoint());
            return;
        }
        shaky.crash(n);
        int got = shaky.checkpoint();
        if (got != PaymentSwitch.CUT) {
            shaky.crash(PaymentSwitch.NONE);
            CHECK.same(name + ", checkpoint", got, steady.checkpoint());
            return;
        }
        failures++;
        int left = shaky.recover();
        CHECK.same(name + ", blocks of a snapshot that was cut", shaky.count(3), written + n);
        int blocks = 1 + (shaky.count(0) + 3) / 4 + (shaky.count(1) + 1) / 2 + 1;
        CHECK.same(name + ", blocks of the journal", left, n == blocks ? 0 : before);
        if (n == blocks) {
            steady.checkpoint();
        }
    }

    // Blocks of snapshots that were cut are written, too, so just that number can differ.
    private static String told(PaymentSwitch x) {
        return Picture.of(x).replaceAll("count 0 3 .*\n", "");
    }

    private int[] draw() {
        int last = Math.max(1, steady.count(4) - 1);
        int number = Math.max(1, last - random.nextInt(6));
        trace += random.nextInt(4) == 0 ? 0 : 1;
        return new int[] {random.nextInt(12), number, trace, random.nextInt(5), random.nextInt(2000),
            random.nextInt(3), random.nextInt(2)};
    }

    private static long call(PaymentSwitch x, int[] d) {
        try {
            switch (d[0]) {
                case 0:
                case 1:
                    x.ask(d[6], d[5] % 2, d[2], d[3], d[4], d[5], d[2]);
                    return x.send();
                case 2:
                case 3:
                    x.present(d[1], d[2], d[4] / 3, d[5]);
                    return x.send();
                case 4:
                    x.undo(d[1], d[6] == 1, d[2], d[5] == 0 ? 0 : d[4] / 2);
                    return x.send();
                case 5:
                    x.total(d[6], d[2]);
                    return x.send();
                case 6:
                    return x.ticks(1 + d[4] % 15);
                case 7:
                    return x.block(d[3], d[6] == 1);
                case 8:
                    return x.charge(d[1], 1 + d[4] / 4);
                case 9:
                    return x.represent(d[1]);
                case 10:
                    return x.decide(d[1], d[6] == 1);
                default:
                    return x.cutoff();
            }
        } catch (IllegalArgumentException e) {
            return THROWN;
        }
    }

    private int any() {
        return random.nextInt(4) == 0 ? EDGES[random.nextInt(EDGES.length)] : random.nextInt(8);
    }

    private void runWild() {
        PaymentSwitch x = random.nextInt(4) == 0 ? new PaymentSwitch(any()) : Fixture.told(any());
        for (int i = 0; i < 480; i++) {
            try {
                wild(x, random.nextInt(41));
            } catch (IllegalArgumentException | IllegalStateException e) {
                CHECK.no("an exception of its own", e.getStackTrace()[0].getClassName().startsWith("java."));
            }
        }
    }

    private void wild(PaymentSwitch x, int which) {
        switch (which) {
            case 0: x.acquirer(any()); break;
            case 1: x.issuer(any()); break;
            case 2: x.route(any(), any(), any()); break;
            case 3: x.account(any(), any(), any()); break;
            case 4: x.card(random.nextBoolean() ? Fixture.CARD_1 : random.nextLong(), any()); break;
            case 5: x.rules(any(), any(), any(), any()); break;
            case 6: x.open(); break;
            case 7: x.message(any()); break;
            case 8: x.digits(any(), random.nextBoolean() ? any() : random.nextLong()); break;
            case 9: x.letters(any(), random.nextLong(), any()); break;
            case 10: x.approval(any()); break;
            case 11: x.original(any(), any(), any()); break;
            case 12: x.omit(any()); break;
            case 13: x.compose(); break;
            case 14: x.ask(any(), any(), any(), any(), any(), any(), any()); break;
            case 15: x.present(any(), any(), any(), any()); break;
            case 16: x.undo(any(), random.nextBoolean(), any(), any()); break;
            case 17: x.total(any(), any()); break;
            case 18: x.feed(any()); break;
            case 19: x.trim(any()); break;
            case 20: x.spoil(any(), any()); break;
            default: wildLater(x, which); break;
        }
    }

    private void wildLater(PaymentSwitch x, int which) {
        switch (which) {
            case 21: x.fault(any()); break;
            case 22: x.size(); break;
            case 23: x.byteAt(any()); break;
            case 24: x.ticks(any()); break;
            case 25: x.block(any(), random.nextBoolean()); break;
            case 26: x.charge(any(), any()); break;
            case 27: x.represent(any()); break;
            case 28: x.decide(any(), random.nextBoolean()); break;
            case 29: x.cutoff(); break;
            case 30: x.checkpoint(); break;
            case 31: x.crash(any()); break;
            case 32: x.recover(); break;
            case 33: x.isDown(); break;
            case 34: x.count(any()); break;
            case 35: x.funds(any(), any()); break;
            case 36: x.payment(any(), any()); break;
            case 37: x.acquired(any(), any()); break;
            case 38: x.issued(any(), any()); break;
            case 39: CHECK.same("audit", x.audit(), 0); break;
            default: x.send(); break;
        }
    }
}
