import java.util.Map;
import java.util.TreeMap;

/** A message as its bytes, put together apart from the class under test; digits can have 0s in front. */
final class Wire {
    private static final String LETTERS_OF_DRAFTS = "0123456789ABCDEFGHIJKLMNOPQRSTUV";

    private final int type;
    private final Map<Integer, String> fields = new TreeMap<>();

    Wire(int newType) {
        type = newType;
    }

    /** A field of digits, just these. */
    Wire digits(int field, String digits) {
        fields.put(field, digits);
        return this;
    }

    /** A field of letters, just these. */
    Wire letters(int field, String letters) {
        fields.put(field, letters);
        return this;
    }

    Wire without(int field) {
        fields.remove(field);
        return this;
    }

    private static boolean isLettered(int field) {
        return field == 37 || field == 38 || field == 39 || field == 41 || field == 54;
    }

    private static boolean isCounted(int field) {
        return field == 2 || field == 32;
    }

    String hex() {
        long first = 0;
        long second = 0;
        StringBuilder rest = new StringBuilder();
        for (Map.Entry<Integer, String> field : fields.entrySet()) {
            if (field.getKey() > 64) {
                second |= 1L << (128 - field.getKey());
            } else {
                first |= 1L << (64 - field.getKey());
            }
            rest.append(hexOf(field.getKey(), field.getValue()));
        }
        String maps = second == 0 ? String.format("%016X", first)
                : String.format("%016X%016X", first | Long.MIN_VALUE, second);
        return String.format("%04d", type) + maps + rest;
    }

    private static String hexOf(int field, String value) {
        if (isLettered(field)) {
            return (field == 54 ? String.format("%04d", value.length()) : "") + Fixture.hexOf(value);
        }
        String packed = value.length() % 2 == 1 ? "0" + value : value;
        return (isCounted(field) ? String.format("%02d", value.length()) : "") + packed;
    }

    /** Puts it on the tape: by the draft, if that can have it, as an object has 512 calls alone. */
    void onTape(PaymentSwitch x) {
        for (Map.Entry<Integer, String> field : fields.entrySet()) {
            if (!isForDrafts(field.getKey(), field.getValue())) {
                Fixture.tape(x, hex());
                return;
            }
        }
        x.message(type);
        for (Map.Entry<Integer, String> field : fields.entrySet()) {
            draft(x, field.getKey(), field.getValue());
        }
        x.compose();
    }

    private static boolean isForDrafts(int field, String value) {
        if (isLettered(field)) {
            return value.length() <= 12 && value.matches("[0-9A-V]*");
        }
        if (field == 90) {
            return value.matches("0{24}\\d{18}") || value.matches("\\d{10}0{16}\\d{5}0{11}");
        }
        return value.length() <= 18 && !(isCounted(field) && value.matches("0.+"));
    }

    private static void draft(PaymentSwitch x, int field, String value) {
        if (isLettered(field)) {
            long v = 0;
            for (int k = value.length() - 1; k >= 0; k--) {
                v = v << 5 | LETTERS_OF_DRAFTS.indexOf(value.charAt(k));
            }
            x.letters(field, v, field == 54 ? value.length() : 0);
        } else if (field == 90 && !value.startsWith("0".repeat(24))) {
            x.original(Integer.parseInt(value.substring(0, 4)), Integer.parseInt(value.substring(4, 10)),
                    Integer.parseInt(value.substring(26, 31)));
        } else {
            x.digits(field, Long.parseLong(field == 90 ? value.substring(24) : value));
        }
    }

    int send(PaymentSwitch x) {
        onTape(x);
        return x.send();
    }

    /** All that a request has: card 0 of the fixture, an amount of 5, and its trace as its reference. */
    static Wire request(int type, int acquirer, int trace) {
        return new Wire(type).digits(2, "410000000019").digits(3, "000000").digits(4, "000000000005")
                .digits(11, String.format("%06d", trace)).digits(32, String.valueOf(acquirer))
                .letters(37, String.format("%012d", trace)).letters(41, "00000000").digits(49, "978");
    }

    static Wire presentment(int type, int acquirer, int trace) {
        return request(type, acquirer, trace).without(41).letters(38, "000001");
    }

    static Wire reversal(int type, int acquirer, int trace) {
        return new Wire(type).digits(2, "410000000019").digits(11, String.format("%06d", trace))
                .digits(32, String.valueOf(acquirer)).letters(37, String.format("%012d", trace))
                .digits(90, "0".repeat(42));
    }

    static Wire totals(int type, int acquirer, int trace) {
        return new Wire(type).digits(11, String.format("%06d", trace)).digits(32, String.valueOf(acquirer))
                .digits(74, "0000000000").digits(86, "0000000000000000");
    }

    static Wire network(int type, int trace) {
        return new Wire(type).digits(11, String.format("%06d", trace)).digits(70, "301");
    }
}
