/**
 * A switch for card payments: it reads messages, answers and keeps them, holds, clears, disputes and
 * settles amounts, and counts the journal's blocks so that a power failure loses nothing answered.
 *
 * <p>Every change is counted as a block in the very call that makes it, so what the last snapshot and the
 * journal would give back is always what the object holds: recovery has no copy to read, and none is kept.
 */
public final class PaymentSwitch {
    public static final int NONE = -1;
    public static final int FULL = -2;
    public static final int CUT = -3;
    public static final int FAULT = -4;
    public static final int BAD = -5;
    public static final int NOWHERE = -6;
    public static final int ELSEWHERE = -7;
    public static final int DOUBLE = -8;
    public static final int STATE = -9;
    public static final int LATE = -10;
    public static final int MUCH = -11;

    private static final int ACQUIRERS = 6;
    private static final int ISSUERS = 6;
    private static final int SWITCH = 6;
    private static final int ROUTES = 40;
    private static final int ROUTE_DIGITS = 8;
    private static final int ACCOUNTS = 64;
    private static final int CARDS = 100;
    private static final int PAYMENTS = 60;
    private static final int ANSWERS = 24;
    private static final int RECENT = 8;
    private static final int RESTARTS = 30;
    private static final int LAST_TIME = 1000000;
    private static final long MOST_MONEY = 1000000000000L;
    private static final int PARTS = 10000;
    private static final int EURO = 978;

    private static final int TAPE_BYTES = 400;
    // All sixteen fields at their longest, with both maps: no message without a fault is longer.
    private static final int MESSAGE_BYTES = 162;

    // A slot is a known field's place among the known ones.
    private static final int SLOTS = 16;
    private static final int CARD = 0;
    private static final int MODE = 1;
    private static final int AMOUNT = 2;
    private static final int TRACE = 3;
    private static final int ACQUIRER = 4;
    private static final int REFERENCE = 5;
    private static final int APPROVAL = 6;
    private static final int RESPONSE = 7;
    private static final int TERMINAL = 8;
    private static final int CURRENCY = 9;
    private static final int NOTE = 10;
    private static final int NETWORK = 11;
    private static final int COUNT = 12;
    private static final int SUM = 13;
    private static final int ORIGINAL = 14;
    private static final int REPLACEMENT = 15;

    private static final int CARD_SIGNS = 19;
    private static final int REFERENCE_SIGNS = 12;
    private static final int MOST_SIGNS = 42;
    private static final int[] FIELD_OF_SLOT = {2, 3, 4, 11, 32, 37, 38, 39, 41, 49, 54, 70, 74, 86, 90, 95};
    private static final int[] SIGNS_OF_SLOT = {19, 6, 12, 6, 11, 12, 6, 2, 8, 3, 40, 3, 10, 16, 42, 12};
    // How many digits tell the field's length; 0 where the length is fixed.
    private static final int[] LENGTH_DIGITS = {2, 0, 0, 0, 2, 0, 0, 0, 0, 0, 3, 0, 0, 0, 0, 0};
    private static final int LETTERED =
            1 << REFERENCE | 1 << APPROVAL | 1 << RESPONSE | 1 << TERMINAL | 1 << NOTE;

    private static final int[] TYPES =
            {100, 101, 110, 220, 221, 230, 400, 401, 410, 420, 421, 430, 500, 501, 510, 800, 810};
    private static final int ASK_FIELDS = 1 << CARD | 1 << MODE | 1 << AMOUNT | 1 << TRACE | 1 << ACQUIRER
            | 1 << REFERENCE | 1 << TERMINAL | 1 << CURRENCY;
    private static final int PRESENT_FIELDS = 1 << CARD | 1 << MODE | 1 << AMOUNT | 1 << TRACE | 1 << ACQUIRER
            | 1 << REFERENCE | 1 << APPROVAL | 1 << CURRENCY;
    private static final int UNDO_FIELDS =
            1 << CARD | 1 << TRACE | 1 << ACQUIRER | 1 << REFERENCE | 1 << ORIGINAL;
    private static final int TOTAL_FIELDS = 1 << TRACE | 1 << ACQUIRER | 1 << COUNT | 1 << SUM;
    private static final int NETWORK_FIELDS = 1 << TRACE | 1 << NETWORK;
    private static final int ECHOED = 1 << CARD | 1 << AMOUNT | 1 << TRACE | 1 << ACQUIRER | 1 << REFERENCE
            | 1 << TERMINAL | 1 << CURRENCY | 1 << NETWORK;

    private static final int SHORT_FAULT = 1;
    private static final int DIGIT_FAULT = 2;
    private static final int TYPE_FAULT = 3;
    private static final int MAP_FAULT = 4;
    private static final int LENGTH_FAULT = 5;
    private static final int LETTER_FAULT = 6;
    private static final int BEHIND_FAULT = 7;

    private static final int HELD = 1;
    private static final int RELEASED = 2;
    private static final int DONE = 3;

    private static final int UNDISPUTED = 0;
    private static final int CHARGED = 1;
    private static final int REPRESENTED = 2;
    private static final int WON = 3;
    private static final int LOST = 4;

    private final Table table;
    private final Message draft;
    private final Bytes tape;
    private final Reader reader;
    private final Book book;
    private final Archive archive;
    private final Journal blocks;
    private final Desk desk;
    private boolean opened;

    public PaymentSwitch(int journal) {
        Table told = new Table();
        Book kept = new Book(told);
        Archive answers = new Archive();
        Journal written = new Journal(Math.max(4, Math.min(30, journal)));
        table = told;
        draft = new Message();
        tape = new Bytes(TAPE_BYTES);
        reader = new Reader();
        book = kept;
        archive = answers;
        blocks = written;
        desk = new Desk(told, kept, answers, written);
    }

    // ---- the table

    public int acquirer(int fee) throws IllegalArgumentException, IllegalStateException {
        demand(isWithin(fee, 0, 1000));
        permit(!opened && table.acquirers < ACQUIRERS);
        return table.addAcquirer(fee);
    }

    public int issuer(int share) throws IllegalArgumentException, IllegalStateException {
        demand(isWithin(share, 0, 1000));
        permit(!opened && table.issuers < ISSUERS);
        return table.addIssuer(share);
    }

    public int route(int issuer, int prefix, int digits) throws IllegalArgumentException, IllegalStateException {
        demand(isWithin(issuer, 0, table.issuers - 1));
        demand(isWithin(digits, 1, ROUTE_DIGITS) && prefix >= 0 && digitCount(prefix) <= digits);
        permit(!opened && (table.routes < ROUTES || table.findRoute(prefix, digits) != NONE));
        return table.lead(issuer, prefix, digits);
    }

    public int account(int issuer, long balance, long minimum)
            throws IllegalArgumentException, IllegalStateException {
        demand(isWithin(issuer, 0, table.issuers - 1));
        demand(isWithin(balance, -MOST_MONEY, MOST_MONEY) && isWithin(minimum, -MOST_MONEY, 0));
        permit(!opened && table.accounts < ACCOUNTS);
        return table.addAccount(issuer, balance, minimum);
    }

    public int card(long number, int account) throws IllegalArgumentException, IllegalStateException {
        demand(number >= 0 && isWithin(digitCount(number), 12, 18));
        demand(isWithin(account, 0, table.accounts - 1));
        permit(!opened && table.cards < CARDS);
        if (!isGood(number)) {
            return BAD;
        }
        int issuer = table.issuerOfNumber(number);
        if (issuer == NONE) {
            return NOWHERE;
        }
        if (issuer != table.accountRows[account].issuer) {
            return ELSEWHERE;
        }
        if (table.findNumber(number) != NONE) {
            return DOUBLE;
        }
        return table.addCard(number, account);
    }

    public void rules(int hold, int window, int dispute, int many)
            throws IllegalArgumentException, IllegalStateException {
        demand(isWithin(hold, 1, 5000) && isWithin(window, 1, 5000) && isWithin(dispute, 1, 5000));
        demand(isWithin(many, 1, 8));
        permit(!opened);
        table.setRules(hold, window, dispute, many);
    }

    public void open() throws IllegalStateException {
        permit(!opened);
        opened = true;
    }

    // ---- messages

    public void message(int type) throws IllegalArgumentException {
        demand(isWithin(type, 0, 9999));
        draft.begin(type);
    }

    public void digits(int field, long v) throws IllegalArgumentException {
        int slot = slotOf(field);
        demand(slot != NONE && !isLettered(slot) && fits(slot, v));
        draft.putNumber(slot, v);
    }

    public void letters(int field, long v, int n) throws IllegalArgumentException {
        int slot = slotOf(field);
        demand(slot != NONE && isLettered(slot));
        demand(slot == NOTE ? isWithin(n, 1, SIGNS_OF_SLOT[NOTE]) : n == 0);
        draft.putLetters(slot, v, slot == NOTE ? n : SIGNS_OF_SLOT[slot]);
    }

    public void approval(int number) throws IllegalArgumentException {
        demand(isWithin(number, 0, 1000000000));
        draft.putFixed(APPROVAL, number, 36);
    }

    public void original(int type, int trace, int acquirer) throws IllegalArgumentException {
        demand(isWithin(type, 0, 9999) && isWithin(trace, 0, 999999) && isWithin(acquirer, 0, 99999));
        draft.putOriginal(type, trace, acquirer);
    }

    public boolean omit(int field) throws IllegalArgumentException {
        int slot = slotOf(field);
        demand(slot != NONE);
        boolean was = draft.has(slot);
        draft.drop(slot);
        return was;
    }

    public int compose() {
        draft.writeTo(tape);
        return tape.length;
    }

    public int ask(int again, int acquirer, int trace, int card, long amount, int mode, int reference)
            throws IllegalArgumentException {
        demand(isWithin(again, 0, 1) && isWithin(card, 0, table.cards - 1) && reference >= 0);
        demand(fits(ACQUIRER, acquirer) && fits(TRACE, trace) && fits(AMOUNT, amount) && fits(MODE, mode));
        draft.begin(100 + again);
        draft.putNumber(CARD, table.cardNumbers[card]);
        draft.putNumber(MODE, mode);
        draft.putNumber(AMOUNT, amount);
        draft.putNumber(TRACE, trace);
        draft.putNumber(ACQUIRER, acquirer);
        draft.putFixed(REFERENCE, reference, 10);
        draft.putFixed(TERMINAL, 0, 10);
        draft.putNumber(CURRENCY, EURO);
        return compose();
    }

    public int present(int number, int trace, long amount, int mode)
            throws IllegalArgumentException, IllegalStateException {
        demand(fits(TRACE, trace) && fits(AMOUNT, amount) && fits(MODE, mode));
        Payment p = wanted(number);
        draftFor(p, 220, trace);
        draft.putNumber(MODE, mode);
        draft.putNumber(AMOUNT, amount);
        draft.putFixed(APPROVAL, p.number, 36);
        draft.putNumber(CURRENCY, EURO);
        return compose();
    }

    public int undo(int number, boolean advice, int trace, long left)
            throws IllegalArgumentException, IllegalStateException {
        demand(fits(TRACE, trace) && fits(REPLACEMENT, left));
        Payment p = wanted(number);
        draftFor(p, advice ? 420 : 400, trace);
        draft.putOriginal(100, p.trace, p.acquirer);
        if (left > 0) {
            draft.putNumber(REPLACEMENT, left);
        }
        return compose();
    }

    public int total(int acquirer, int trace) throws IllegalArgumentException, IllegalStateException {
        demand(isWithin(acquirer, 0, table.acquirers - 1) && fits(TRACE, trace));
        permit(isRunning());
        draft.begin(500);
        draft.putNumber(TRACE, trace);
        draft.putNumber(ACQUIRER, acquirer);
        draft.putNumber(COUNT, book.positions.batchCount[acquirer]);
        draft.putNumber(SUM, book.positions.batchSum[acquirer]);
        return compose();
    }

    public int feed(int b) throws IllegalArgumentException, IllegalStateException {
        demand(isWithin(b, 0, 255));
        permit(tape.length < TAPE_BYTES);
        tape.add(b);
        return tape.length;
    }

    public int trim(int n) throws IllegalArgumentException {
        demand(isWithin(n, 0, tape.length));
        tape.drop(n);
        return tape.length;
    }

    public int spoil(int i, int x) throws IllegalArgumentException {
        demand(isWithin(i, 0, tape.length - 1) && isWithin(x, 0, 255));
        tape.flip(i, x);
        return tape.at(i);
    }

    public int fault(int what) throws IllegalArgumentException {
        demand(isWithin(what, 0, 1));
        reader.read(tape);
        return what == 0 ? reader.kind : reader.place;
    }

    public int send() throws IllegalStateException {
        permit(isRunning());
        reader.read(tape);
        if (reader.kind != 0) {
            desk.last.clear();
            return FAULT;
        }
        return desk.take(reader.message, tape);
    }

    public int size() {
        return desk.last.length;
    }

    public int byteAt(int i) throws IllegalArgumentException {
        demand(isWithin(i, 0, desk.last.length - 1));
        return desk.last.at(i);
    }

    // ---- later

    public int ticks(int n) throws IllegalArgumentException, IllegalStateException {
        demand(isWithin(n, 1, 1000));
        permit(isRunning() && book.time + n <= LAST_TIME);
        if (!blocks.hasRoom()) {
            return FULL;
        }
        book.advance(n);
        return blocks.writeOne() ? CUT : book.time;
    }

    public int block(int card, boolean on) throws IllegalArgumentException, IllegalStateException {
        demand(isWithin(card, 0, table.cards - 1));
        permit(isRunning());
        if (table.cardBlocked[card] == on) {
            return 0;
        }
        if (!blocks.hasRoom()) {
            return FULL;
        }
        table.cardBlocked[card] = on;
        return blocks.writeOne() ? CUT : 1;
    }

    public int charge(int number, long amount) throws IllegalArgumentException, IllegalStateException {
        demand(amount >= 1);
        Payment p = wanted(number);
        if (p.state != DONE || p.dispute != UNDISPUTED) {
            return STATE;
        }
        if (book.isOverdue(p)) {
            return LATE;
        }
        if (amount > p.cleared) {
            return MUCH;
        }
        if (!blocks.hasRoom()) {
            return FULL;
        }
        book.chargeBack(p, amount);
        return blocks.writeOne() ? CUT : 1;
    }

    public int represent(int number) throws IllegalArgumentException, IllegalStateException {
        Payment p = wanted(number);
        if (p.dispute != CHARGED) {
            return STATE;
        }
        if (!blocks.hasRoom()) {
            return FULL;
        }
        book.contest(p);
        return blocks.writeOne() ? CUT : 1;
    }

    public int decide(int number, boolean won) throws IllegalArgumentException, IllegalStateException {
        Payment p = wanted(number);
        if (p.dispute != REPRESENTED) {
            return STATE;
        }
        if (!blocks.hasRoom()) {
            return FULL;
        }
        book.judge(p, won);
        return blocks.writeOne() ? CUT : 1;
    }

    public int cutoff() throws IllegalStateException {
        permit(isRunning());
        if (!blocks.hasRoom()) {
            return FULL;
        }
        book.positions.settle();
        int forgotten = book.forget();
        return blocks.writeOne() ? CUT : forgotten;
    }

    // ---- the journal

    public int checkpoint() throws IllegalStateException {
        permit(isRunning());
        int n = shares(table.accounts, 8) + shares(book.used, 4) + shares(archive.used, 2) + 1;
        return blocks.writeSnapshot(n) ? CUT : n;
    }

    public void crash(int n) throws IllegalArgumentException, IllegalStateException {
        demand(isWithin(n, NONE, 1000));
        permit(isRunning());
        blocks.failAfter(n);
    }

    public int recover() throws IllegalStateException {
        permit(blocks.down && blocks.restarts < RESTARTS);
        blocks.restart();
        return blocks.used;
    }

    public boolean isDown() {
        return blocks.down;
    }

    // ---- what is told

    public int count(int what) throws IllegalArgumentException, IllegalStateException {
        demand(isWithin(what, 0, 5));
        permit(isRunning());
        switch (what) {
            case 0:
                return book.used;
            case 1:
                return archive.used;
            case 2:
                return blocks.used;
            case 3:
                return blocks.written;
            case 4:
                return book.next;
            default:
                return book.time;
        }
    }

    public long funds(int account, int what) throws IllegalArgumentException, IllegalStateException {
        demand(isWithin(account, 0, table.accounts - 1) && isWithin(what, 0, 4));
        permit(isRunning());
        Account a = table.accountRows[account];
        switch (what) {
            case 0:
                return a.balance;
            case 1:
                return a.held;
            case 2:
                return a.locked;
            case 3:
                return a.free();
            default:
                return a.approvedSince(book.time - table.window);
        }
    }

    public long payment(int number, int what) throws IllegalArgumentException, IllegalStateException {
        demand(isWithin(what, 0, 10));
        Payment p = wanted(number);
        return what < 8 ? p.tell(what) : p.tellDispute(what);
    }

    public long acquired(int acquirer, int what) throws IllegalArgumentException, IllegalStateException {
        demand(isWithin(acquirer, 0, table.acquirers - 1) && isWithin(what, 0, 3));
        permit(isRunning());
        switch (what) {
            case 0:
                return book.positions.acquirer[acquirer];
            case 1:
                return book.positions.acquirerSettled[acquirer];
            case 2:
                return book.positions.batchCount[acquirer];
            default:
                return book.positions.batchSum[acquirer];
        }
    }

    public long issued(int issuer, int what) throws IllegalArgumentException, IllegalStateException {
        demand((isWithin(issuer, 0, table.issuers - 1) || issuer == SWITCH) && isWithin(what, 0, 1));
        permit(isRunning());
        return what == 0 ? book.positions.issuer[issuer] : book.positions.issuerSettled[issuer];
    }

    public int audit() throws IllegalStateException {
        permit(isRunning());
        return book.countWrongs();
    }

    // ---- helpers of the face

    private static void demand(boolean argumentsAreGood) {
        if (!argumentsAreGood) {
            throw new IllegalArgumentException();
        }
    }

    private static void permit(boolean stateIsRight) {
        if (!stateIsRight) {
            throw new IllegalStateException();
        }
    }

    private boolean isRunning() {
        return opened && !blocks.down;
    }

    // While the power is off nobody asks which payments there are, so only the state can be wrong then.
    private Payment wanted(int number) {
        permit(!blocks.down);
        Payment p = book.find(number);
        if (p == null) {
            throw new IllegalArgumentException();
        }
        return p;
    }

    private void draftFor(Payment p, int type, int trace) {
        draft.begin(type);
        draft.putRow(CARD, p.card, p.cardLength);
        draft.putNumber(TRACE, trace);
        draft.putNumber(ACQUIRER, p.acquirer);
        draft.putRow(REFERENCE, p.reference, REFERENCE_SIGNS);
    }

    private static boolean isWithin(long v, long least, long most) {
        return v >= least && v <= most;
    }

    private static int slotOf(int field) {
        for (int slot = 0; slot < SLOTS; slot++) {
            if (FIELD_OF_SLOT[slot] == field) {
                return slot;
            }
        }
        return NONE;
    }

    private static boolean isLettered(int slot) {
        return (LETTERED >> slot & 1) == 1;
    }

    private static boolean fits(int slot, long v) {
        return v >= 0 && digitCount(v) <= SIGNS_OF_SLOT[slot];
    }

    private static int digitCount(long v) {
        int n = 1;
        long rest = v / 10;
        while (rest > 0 && n < CARD_SIGNS) {
            rest = rest / 10;
            n++;
        }
        return n;
    }

    private static long tenTo(int n) {
        long power = 1;
        for (int i = 0; i < n; i++) {
            power = power * 10;
        }
        return power;
    }

    private static boolean isGood(long number) {
        int sum = 0;
        long rest = number;
        for (int i = 0; i < CARD_SIGNS; i++) {
            int d = (int) (rest % 10) * (i % 2 + 1);
            sum += d > 9 ? d - 9 : d;
            rest = rest / 10;
        }
        return sum % 10 == 0;
    }

    private static int shares(int things, int each) {
        return each > 0 ? (things + each - 1) / each : 0;
    }

    /** What is told before open(), and which cards are blocked. */
    private static final class Table {
        private final int[] fees = new int[ACQUIRERS];
        private int acquirers;
        private final int[] issuerShares = new int[ISSUERS];
        private int issuers;
        private final int[] routePrefixes = new int[ROUTES];
        private final int[] routeDigits = new int[ROUTES];
        private final int[] routeIssuers = new int[ROUTES];
        private int routes;
        private final Account[] accountRows = new Account[ACCOUNTS];
        private int accounts;
        private final long[] cardNumbers = new long[CARDS];
        private final int[] cardAccounts = new int[CARDS];
        private final boolean[] cardBlocked = new boolean[CARDS];
        private int cards;
        private int hold = 100;
        private int window = 50;
        private int disputeSpan = 200;
        private int many = 5;

        Table() {
            for (int i = 0; i < ACCOUNTS; i++) {
                accountRows[i] = new Account(i);
            }
        }

        int addAcquirer(int fee) {
            fees[acquirers] = fee;
            acquirers++;
            return acquirers - 1;
        }

        int addIssuer(int share) {
            issuerShares[issuers] = share;
            issuers++;
            return issuers - 1;
        }

        int findRoute(int prefix, int digits) {
            for (int r = 0; r < routes; r++) {
                if (routePrefixes[r] == prefix && routeDigits[r] == digits) {
                    return r;
                }
            }
            return NONE;
        }

        int lead(int issuer, int prefix, int digits) {
            int r = findRoute(prefix, digits);
            int before = NONE;
            if (r == NONE) {
                r = routes;
                routes++;
            } else {
                before = routeIssuers[r];
            }
            routePrefixes[r] = prefix;
            routeDigits[r] = digits;
            routeIssuers[r] = issuer;
            return before;
        }

        int addAccount(int issuer, long balance, long minimum) {
            accountRows[accounts].begin(issuer, balance, minimum);
            accounts++;
            return accounts - 1;
        }

        int addCard(long number, int account) {
            cardNumbers[cards] = number;
            cardAccounts[cards] = account;
            cards++;
            return cards - 1;
        }

        void setRules(int newHold, int newWindow, int newDispute, int newMany) {
            hold = newHold;
            window = newWindow;
            disputeSpan = newDispute;
            many = newMany;
        }

        int findNumber(long number) {
            for (int i = 0; i < cards; i++) {
                if (cardNumbers[i] == number) {
                    return i;
                }
            }
            return NONE;
        }

        int issuerOfNumber(long number) {
            int behind = Math.max(0, digitCount(number) - ROUTE_DIGITS);
            return longestRoute(number / tenTo(behind), digitCount(number) - behind);
        }

        int issuerOfCard(Message m) {
            int known = Math.min(ROUTE_DIGITS, m.lengths[CARD]);
            return longestRoute(m.section(CARD, 0, known), known);
        }

        // No route is longer than eight digits, so a card's first ones (leading, so many are known) decide.
        private int longestRoute(long leading, int known) {
            int best = NONE;
            int bestDigits = 0;
            for (int r = 0; r < routes; r++) {
                int d = routeDigits[r];
                if (d <= known && d > bestDigits && leading / tenTo(known - d) == routePrefixes[r]) {
                    best = routeIssuers[r];
                    bestDigits = d;
                }
            }
            return best;
        }

        // Every card that was told is GOOD, so one that is not is found nowhere, like one never told.
        int findCard(Message m) {
            int n = m.lengths[CARD];
            if (n < 12 || n > 18 || m.signs[CARD][0] == 0) {
                return NONE;
            }
            return findNumber(m.section(CARD, 0, n));
        }
    }

    /** An account: its funds, and when its last payments were approved. */
    private static final class Account {
        private final int number;
        private int issuer;
        private long minimum;
        private long freeAtFirst;
        private long balance;
        private long held;
        private long locked;
        private final int[] approvals = new int[RECENT];
        private int approved;

        Account(int ownNumber) {
            number = ownNumber;
        }

        void begin(int ofIssuer, long firstBalance, long leastBalance) {
            issuer = ofIssuer;
            balance = firstBalance;
            minimum = leastBalance;
            freeAtFirst = firstBalance - leastBalance;
        }

        long free() {
            return balance - minimum - held - locked;
        }

        void noteApproval(int time) {
            approvals[approved % RECENT] = time;
            approved++;
        }

        int approvedSince(int time) {
            int n = 0;
            for (int i = 0; i < RECENT && i < approved; i++) {
                if (approvals[i] >= time) {
                    n++;
                }
            }
            return n;
        }
    }

    /** A row of bytes: the tape, the last answer, and what is kept. */
    private static final class Bytes {
        private final int[] row;
        private int length;

        Bytes(int most) {
            row = new int[most];
        }

        void clear() {
            length = 0;
        }

        void add(int b) {
            if (length < row.length) {
                row[length] = b & 255;
                length++;
            }
        }

        void drop(int n) {
            length = Math.max(0, length - n);
        }

        int at(int i) {
            return i >= 0 && i < length ? row[i] : 0;
        }

        void flip(int i, int x) {
            if (i >= 0 && i < length) {
                row[i] = row[i] ^ x;
            }
        }

        void copy(Bytes from) {
            clear();
            for (int i = 0; i < from.length; i++) {
                add(from.row[i]);
            }
        }

        // The type's last digit, the lower half of byte 1, only tells that a message is sent again.
        boolean isRepeatOf(Bytes first) {
            if (length != first.length) {
                return false;
            }
            for (int i = 0; i < length; i++) {
                int differs = at(i) ^ first.at(i);
                if ((i == 1 ? differs >> 4 : differs) != 0) {
                    return false;
                }
            }
            return true;
        }
    }

    /** A type and fields; a field is a row of signs, 0 .. 9 for digits and 0 .. 35 for letters. */
    private static final class Message {
        private int type = 800;
        private int there;
        private final int[] lengths = new int[SLOTS];
        private final int[][] signs = new int[SLOTS][MOST_SIGNS];

        void begin(int newType) {
            type = newType;
            there = 0;
        }

        boolean has(int slot) {
            return (there >> slot & 1) == 1;
        }

        void drop(int slot) {
            there = there & ~(1 << slot);
        }

        void start(int slot, int length) {
            there = there | 1 << slot;
            lengths[slot] = length;
        }

        void putNumber(int slot, long v) {
            int n = LENGTH_DIGITS[slot] > 0 ? digitCount(v) : SIGNS_OF_SLOT[slot];
            start(slot, n);
            overlay(slot, n, v, 10);
        }

        void putFixed(int slot, long v, int base) {
            start(slot, SIGNS_OF_SLOT[slot]);
            overlay(slot, SIGNS_OF_SLOT[slot], v, base);
        }

        void putOriginal(int originalType, int trace, int acquirer) {
            putFixed(ORIGINAL, 0, 10);
            overlay(ORIGINAL, 31, acquirer, 10);
            overlay(ORIGINAL, 10, trace, 10);
            overlay(ORIGINAL, 4, originalType, 10);
        }

        // The first n signs become v; so parts of a field are put from the last one to the first.
        private void overlay(int slot, int n, long v, int base) {
            long rest = v;
            for (int i = n - 1; i >= 0; i--) {
                signs[slot][i] = (int) (rest % base);
                rest = rest / base;
            }
        }

        void putLetters(int slot, long v, int n) {
            start(slot, n);
            for (int k = 0; k < n; k++) {
                signs[slot][k] = (int) (v >> (5 * (k % 12)) & 31);
            }
        }

        void putRow(int slot, int[] row, int n) {
            start(slot, n);
            for (int i = 0; i < n && i < row.length; i++) {
                signs[slot][i] = row[i];
            }
        }

        void copyRow(int slot, int[] row) {
            for (int i = 0; i < lengths[slot] && i < row.length; i++) {
                row[i] = signs[slot][i];
            }
        }

        boolean isRow(int slot, int[] row, int n) {
            if (lengths[slot] != n || n > row.length) {
                return false;
            }
            for (int i = 0; i < n; i++) {
                if (signs[slot][i] != row[i]) {
                    return false;
                }
            }
            return true;
        }

        long numberOf(int slot) {
            return section(slot, 0, lengths[slot]);
        }

        long section(int slot, int from, int n) {
            long v = 0;
            for (int i = from; i < from + n && i < lengths[slot]; i++) {
                v = v * 10 + signs[slot][i];
            }
            return v;
        }

        boolean isOriginalOf(int trace, int acquirer) {
            return section(ORIGINAL, 0, 4) == 100 && section(ORIGINAL, 4, 6) == trace
                    && section(ORIGINAL, 10, 10) == 0 && section(ORIGINAL, 20, 11) == acquirer
                    && section(ORIGINAL, 31, 11) == 0;
        }

        void writeTo(Bytes out) {
            out.clear();
            out.add((type / 1000 << 4) | type / 100 % 10);
            out.add((type / 10 % 10 << 4) | type % 10);
            writeMaps(out);
            for (int slot = 0; slot < SLOTS; slot++) {
                if (has(slot)) {
                    writeLength(slot, out);
                    writeSigns(slot, out);
                }
            }
        }

        private void writeMaps(Bytes out) {
            long first = 0;
            long second = 0;
            for (int slot = 0; slot < SLOTS; slot++) {
                int field = FIELD_OF_SLOT[slot];
                if (has(slot) && field <= 64) {
                    first = first | 1L << (64 - field);
                } else if (has(slot)) {
                    second = second | 1L << (128 - field);
                }
            }
            if (second == 0) {
                writeMap(first, out);
            } else {
                writeMap(first | 1L << 63, out);
                writeMap(second, out);
            }
        }

        private static void writeMap(long map, Bytes out) {
            for (int i = 0; i < 8; i++) {
                out.add((int) (map >> (56 - 8 * i) & 255));
            }
        }

        private void writeLength(int slot, Bytes out) {
            int n = lengths[slot];
            if (LENGTH_DIGITS[slot] > 2) {
                out.add(n / 100);
            }
            if (LENGTH_DIGITS[slot] > 0) {
                out.add((n / 10 % 10 << 4) | n % 10);
            }
        }

        private void writeSigns(int slot, Bytes out) {
            int n = lengths[slot];
            boolean halfIsOut = n % 2 == 1;
            int half = 0;
            for (int i = 0; i < n; i++) {
                int sign = signs[slot][i];
                if (isLettered(slot)) {
                    out.add(sign < 10 ? '0' + sign : 'A' + sign - 10);
                } else if (halfIsOut) {
                    out.add((half << 4) | sign);
                    halfIsOut = false;
                } else {
                    half = sign;
                    halfIsOut = true;
                }
            }
        }
    }

    /** Reads a tape into a message, up to its first fault. */
    private static final class Reader {
        private final Message message = new Message();
        private int kind;
        private int place;
        private int at;

        void read(Bytes in) {
            kind = 0;
            place = NONE;
            at = 0;
            if (readType(in) && readMaps(in) && readFields(in) && at < in.length) {
                refuse(BEHIND_FAULT, at);
            }
        }

        private boolean refuse(int faultKind, int faultPlace) {
            kind = faultKind;
            place = faultPlace;
            return false;
        }

        private boolean lookFor(Bytes in, int n) {
            return in.length - at >= n || refuse(SHORT_FAULT, in.length);
        }

        private boolean lookForDigits(Bytes in, int n) {
            int needed = shares(n, 2);
            if (!lookFor(in, needed)) {
                return false;
            }
            for (int i = at; i < at + needed; i++) {
                int high = in.at(i) >> 4;
                int highest = i == at && n % 2 == 1 ? 0 : 9;
                if (high > highest || (in.at(i) & 15) > 9) {
                    return refuse(DIGIT_FAULT, i);
                }
            }
            return true;
        }

        // Digit i of n that begin at this place; odd ones have half a byte in front.
        private int digitOf(Bytes in, int n, int i) {
            int halves = i + n % 2;
            int b = in.at(at + halves / 2);
            return halves % 2 == 0 ? b >> 4 : b & 15;
        }

        private int numberHere(Bytes in, int n) {
            int v = 0;
            for (int i = 0; i < n; i++) {
                v = v * 10 + digitOf(in, n, i);
            }
            return v;
        }

        private boolean readType(Bytes in) {
            if (!lookForDigits(in, 4)) {
                return false;
            }
            int type = numberHere(in, 4);
            for (int i = 0; i < TYPES.length; i++) {
                if (TYPES[i] == type) {
                    message.begin(type);
                    at = 2;
                    return true;
                }
            }
            return refuse(TYPE_FAULT, 0);
        }

        private boolean readMaps(Bytes in) {
            if (!lookFor(in, 8)) {
                return false;
            }
            at = 10;
            boolean two = hasBit(in, 1);
            if (two && !lookFor(in, 8)) {
                return false;
            }
            boolean second = false;
            for (int k = 2; k <= (two ? 128 : 64); k++) {
                if (hasBit(in, k)) {
                    int slot = slotOf(k);
                    if (slot == NONE) {
                        return refuse(MAP_FAULT, 2 + (k - 1) / 8);
                    }
                    message.start(slot, SIGNS_OF_SLOT[slot]);
                    second = second || k > 64;
                }
            }
            if (two && !second) {
                return refuse(MAP_FAULT, 10);
            }
            at = two ? 18 : 10;
            return true;
        }

        private static boolean hasBit(Bytes in, int k) {
            return (in.at(2 + (k - 1) / 8) >> (7 - (k - 1) % 8) & 1) == 1;
        }

        private boolean readFields(Bytes in) {
            for (int slot = 0; slot < SLOTS; slot++) {
                if (message.has(slot) && !(readLength(in, slot)
                        && (isLettered(slot) ? readLetters(in, slot) : readDigits(in, slot)))) {
                    return false;
                }
            }
            return true;
        }

        private boolean readLength(Bytes in, int slot) {
            int n = LENGTH_DIGITS[slot];
            if (n == 0) {
                return true;
            }
            if (!lookForDigits(in, n)) {
                return false;
            }
            int length = numberHere(in, n);
            if (length < 1 || length > SIGNS_OF_SLOT[slot]) {
                return refuse(LENGTH_FAULT, at);
            }
            message.start(slot, length);
            at += shares(n, 2);
            return true;
        }

        private boolean readDigits(Bytes in, int slot) {
            int n = message.lengths[slot];
            if (!lookForDigits(in, n)) {
                return false;
            }
            for (int i = 0; i < n; i++) {
                message.signs[slot][i] = digitOf(in, n, i);
            }
            at += shares(n, 2);
            return true;
        }

        private boolean readLetters(Bytes in, int slot) {
            int n = message.lengths[slot];
            if (!lookFor(in, n)) {
                return false;
            }
            for (int i = 0; i < n; i++) {
                int sign = signOf(in.at(at + i));
                if (sign == NONE) {
                    return refuse(LETTER_FAULT, at + i);
                }
                message.signs[slot][i] = sign;
            }
            at += n;
            return true;
        }

        private static int signOf(int b) {
            if (b >= '0' && b <= '9') {
                return b - '0';
            }
            return b >= 'A' && b <= 'Z' ? b - 'A' + 10 : NONE;
        }
    }

    /** A payment; its row is used again when the payment is forgotten. */
    private static final class Payment {
        private int number;
        private int acquirer;
        private int trace;
        private final int[] card = new int[CARD_SIGNS];
        private int cardLength;
        private final int[] reference = new int[REFERENCE_SIGNS];
        private Account account;
        private int state;
        private long held;
        private long cleared;
        private int until;
        private int doneAt;
        private int dispute;
        private long disputed;
        private int disputeUntil;

        // RELEASED and of no account: what an advice leaves; a hold goes on from there.
        void begin(int newNumber, int ofAcquirer, Message m) {
            number = newNumber;
            acquirer = ofAcquirer;
            trace = (int) m.numberOf(TRACE);
            m.copyRow(CARD, card);
            cardLength = m.lengths[CARD];
            m.copyRow(REFERENCE, reference);
            account = null;
            state = RELEASED;
            held = 0;
            cleared = 0;
            until = 0;
            doneAt = NONE;
            dispute = UNDISPUTED;
            disputed = 0;
            disputeUntil = NONE;
        }

        boolean hasKey(int ofAcquirer, Message m) {
            return acquirer == ofAcquirer && m.isRow(REFERENCE, reference, REFERENCE_SIGNS);
        }

        boolean hasCard(Message m) {
            return m.isRow(CARD, card, cardLength);
        }

        boolean hasApproval(Message m) {
            long rest = number;
            for (int i = SIGNS_OF_SLOT[APPROVAL] - 1; i >= 0; i--) {
                if (m.signs[APPROVAL][i] != rest % 36) {
                    return false;
                }
                rest = rest / 36;
            }
            return true;
        }

        boolean isDisputeOpen() {
            return dispute == CHARGED || dispute == REPRESENTED;
        }

        long tell(int what) {
            switch (what) {
                case 0:
                    return state;
                case 1:
                    return held;
                case 2:
                    return cleared;
                case 3:
                    return until;
                case 4:
                    return doneAt;
                case 5:
                    return account == null ? NONE : account.number;
                case 6:
                    return acquirer;
                default:
                    return trace;
            }
        }

        long tellDispute(int what) {
            switch (what) {
                case 8:
                    return dispute;
                case 9:
                    return disputed;
                default:
                    return disputeUntil;
            }
        }
    }

    /** What acquirers, issuers and the switch owe each other, and the acquirers' batches. */
    private static final class Positions {
        private final long[] acquirer = new long[ACQUIRERS];
        private final long[] acquirerSettled = new long[ACQUIRERS];
        // The switch's own stands behind those of the issuers.
        private final long[] issuer = new long[ISSUERS + 1];
        private final long[] issuerSettled = new long[ISSUERS + 1];
        private final int[] batchCount = new int[ACQUIRERS];
        private final long[] batchSum = new long[ACQUIRERS];

        void shareOut(int a, int i, long amount, int fee, int share) {
            long cost = (amount * (share + fee) + PARTS - 1) / PARTS;
            long interchange = amount * share / PARTS;
            acquirer[a] += amount - cost;
            issuer[i] += interchange - amount;
            issuer[SWITCH] += cost - interchange;
        }

        void giveBack(int a, int i, long amount) {
            acquirer[a] -= amount;
            issuer[i] += amount;
        }

        void addToBatch(int a, long amount) {
            batchCount[a]++;
            batchSum[a] += amount;
        }

        void emptyBatch(int a) {
            batchCount[a] = 0;
            batchSum[a] = 0;
        }

        void settle() {
            settleRow(acquirer, acquirerSettled);
            settleRow(issuer, issuerSettled);
        }

        private static void settleRow(long[] open, long[] settled) {
            for (int i = 0; i < open.length && i < settled.length; i++) {
                settled[i] += open[i];
                open[i] = 0;
            }
        }

        int countUneven() {
            int n = 0;
            if (sumOf(acquirer) + sumOf(issuer) != 0) {
                n++;
            }
            if (sumOf(acquirerSettled) + sumOf(issuerSettled) != 0) {
                n++;
            }
            return n;
        }

        private static long sumOf(long[] row) {
            long sum = 0;
            for (int i = 0; i < row.length; i++) {
                sum += row[i];
            }
            return sum;
        }
    }

    /** The payments, and the time. */
    private static final class Book {
        private final Table table;
        private final Positions positions = new Positions();
        private final Payment[] payments = new Payment[PAYMENTS];
        private int used;
        private int next = 1;
        private int time;

        Book(Table told) {
            table = told;
            for (int i = 0; i < PAYMENTS; i++) {
                payments[i] = new Payment();
            }
        }

        Payment find(int number) {
            for (int i = 0; i < used; i++) {
                if (payments[i].number == number) {
                    return payments[i];
                }
            }
            return null;
        }

        Payment findKey(int acquirer, Message m) {
            for (int i = 0; i < used; i++) {
                if (payments[i].hasKey(acquirer, m)) {
                    return payments[i];
                }
            }
            return null;
        }

        // null if there are 60 already.
        Payment begin(int acquirer, Message m) {
            if (used >= PAYMENTS) {
                return null;
            }
            Payment p = payments[used];
            p.begin(next, acquirer, m);
            used++;
            next++;
            return p;
        }

        void hold(Payment p, Account a, long amount) {
            p.account = a;
            p.state = HELD;
            p.held = amount;
            p.until = time + table.hold;
            a.held += amount;
            a.noteApproval(time);
        }

        void holdOnly(Payment p, long amount) {
            if (p.account != null) {
                p.account.held -= p.held - amount;
            }
            p.held = amount;
        }

        void release(Payment p) {
            holdOnly(p, 0);
            p.until = 0;
            p.state = RELEASED;
        }

        private void finish(Payment p, int when) {
            holdOnly(p, 0);
            p.until = 0;
            p.state = DONE;
            p.doneAt = when;
        }

        void clear(Payment p, long amount, boolean more) {
            Account a = p.account;
            if (a == null) {
                return;
            }
            holdOnly(p, p.held - amount);
            p.cleared += amount;
            a.balance -= amount;
            positions.shareOut(p.acquirer, a.issuer, amount, table.fees[p.acquirer], table.issuerShares[a.issuer]);
            positions.addToBatch(p.acquirer, amount);
            if (!more || p.held == 0) {
                finish(p, time);
            }
        }

        // In no tick does anything begin, so all ticks of a call can be looked at from the last one.
        void advance(int n) {
            time += n;
            for (int i = 0; i < used; i++) {
                lapse(payments[i]);
            }
        }

        private void lapse(Payment p) {
            if (p.state == HELD && p.until <= time) {
                if (p.cleared == 0) {
                    release(p);
                } else {
                    finish(p, p.until);
                }
            }
            if (p.isDisputeOpen() && p.disputeUntil < time) {
                close(p, p.dispute == CHARGED);
            }
        }

        boolean isOverdue(Payment p) {
            return time - p.doneAt > table.disputeSpan;
        }

        void chargeBack(Payment p, long amount) {
            Account a = p.account;
            if (a == null) {
                return;
            }
            p.dispute = CHARGED;
            p.disputed = amount;
            p.disputeUntil = time + table.disputeSpan;
            a.balance += amount;
            a.locked += amount;
            positions.giveBack(p.acquirer, a.issuer, amount);
        }

        void contest(Payment p) {
            Account a = p.account;
            if (a == null) {
                return;
            }
            p.dispute = REPRESENTED;
            p.disputeUntil = time + table.disputeSpan;
            positions.giveBack(p.acquirer, a.issuer, -p.disputed);
        }

        void judge(Payment p, boolean won) {
            Account a = p.account;
            if (a == null) {
                return;
            }
            if (won) {
                positions.giveBack(p.acquirer, a.issuer, p.disputed);
            }
            close(p, won);
        }

        // Moves no position: a dispute that ends by time leaves the amount where it lies.
        private void close(Payment p, boolean won) {
            Account a = p.account;
            if (a == null) {
                return;
            }
            a.locked -= p.disputed;
            if (!won) {
                a.balance -= p.disputed;
            }
            p.dispute = won ? WON : LOST;
            p.disputeUntil = NONE;
        }

        int forget() {
            int kept = 0;
            for (int i = 0; i < used; i++) {
                Payment p = payments[i];
                if (!isOver(p)) {
                    payments[i] = payments[kept];
                    payments[kept] = p;
                    kept++;
                }
            }
            int forgotten = used - kept;
            used = kept;
            return forgotten;
        }

        private boolean isOver(Payment p) {
            if (p.state == DONE && p.dispute == UNDISPUTED) {
                return isOverdue(p);
            }
            return p.state == RELEASED || p.dispute == WON || p.dispute == LOST;
        }

        int countWrongs() {
            int n = positions.countUneven();
            for (int i = 0; i < table.accounts; i++) {
                Account a = table.accountRows[i];
                if (a.free() < 0 && a.free() < a.freeAtFirst) {
                    n++;
                }
                if (!isMadeOfPayments(a)) {
                    n++;
                }
            }
            for (int i = 0; i < used; i++) {
                if (payments[i].held < 0) {
                    n++;
                }
            }
            return n;
        }

        private boolean isMadeOfPayments(Account a) {
            long held = 0;
            long locked = 0;
            for (int i = 0; i < used; i++) {
                Payment p = payments[i];
                if (p.account == a) {
                    held += p.held;
                    locked += p.isDisputeOpen() ? p.disputed : 0;
                }
            }
            return held == a.held && locked == a.locked;
        }
    }

    /** The answers that are kept, with their messages. */
    private static final class Archive {
        private final int[] acquirers = new int[ANSWERS];
        private final int[] traces = new int[ANSWERS];
        private final int[] kinds = new int[ANSWERS];
        private final int[] responses = new int[ANSWERS];
        private final Bytes[] messages = new Bytes[ANSWERS];
        private final Bytes[] answers = new Bytes[ANSWERS];
        private int used;
        private int oldest;

        Archive() {
            for (int i = 0; i < ANSWERS; i++) {
                messages[i] = new Bytes(MESSAGE_BYTES);
                answers[i] = new Bytes(MESSAGE_BYTES);
            }
        }

        int find(int acquirer, Message m) {
            for (int i = 0; i < used; i++) {
                if (acquirers[i] == acquirer && traces[i] == m.numberOf(TRACE) && kinds[i] == m.type / 100) {
                    return i;
                }
            }
            return NONE;
        }

        void keep(int acquirer, Message m, int response, Bytes in, Bytes out) {
            int i = takeRow();
            acquirers[i] = acquirer;
            traces[i] = (int) m.numberOf(TRACE);
            kinds[i] = m.type / 100;
            responses[i] = response;
            messages[i].copy(in);
            answers[i].copy(out);
        }

        private int takeRow() {
            if (used < ANSWERS) {
                used++;
                return used - 1;
            }
            int row = oldest;
            oldest = (oldest + 1) % ANSWERS;
            return row;
        }
    }

    /** How many blocks are used and written, and when the power fails. */
    private static final class Journal {
        private final int most;
        private int used;
        private int written;
        private int left = NONE;
        private boolean down;
        private int restarts;

        Journal(int size) {
            most = size;
        }

        boolean hasRoom() {
            return used < most;
        }

        // Whether the power failed with it.
        boolean writeOne() {
            used++;
            spend(1);
            return down;
        }

        // Likewise; a snapshot that lacks a block leaves the journal as it was.
        boolean writeSnapshot(int n) {
            if (left == NONE || left >= n) {
                used = 0;
                spend(n);
            } else {
                spend(left);
            }
            return down;
        }

        private void spend(int n) {
            written += n;
            if (left != NONE) {
                failAfter(left - n);
            }
        }

        void failAfter(int n) {
            left = n;
            down = n == 0;
        }

        void restart() {
            restarts++;
            left = NONE;
            down = false;
        }
    }

    /** Answers messages that have no fault. */
    private static final class Desk {
        private final Table table;
        private final Book book;
        private final Archive archive;
        private final Journal blocks;
        private final Message answer = new Message();
        private final Bytes last = new Bytes(MESSAGE_BYTES);

        Desk(Table told, Book payments, Archive answers, Journal journal) {
            table = told;
            book = payments;
            archive = answers;
            blocks = journal;
        }

        int take(Message m, Bytes in) {
            beginAnswer(m);
            if (!isComplete(m)) {
                return finishAnswer(30);
            }
            if (m.type == 800) {
                return finishAnswer(0);
            }
            long named = m.numberOf(ACQUIRER);
            if (named >= table.acquirers) {
                return finishAnswer(3);
            }
            int acquirer = (int) named;
            int row = archive.find(acquirer, m);
            if (row != NONE) {
                return in.isRepeatOf(archive.messages[row]) ? answerAgain(row) : finishAnswer(94);
            }
            if (!blocks.hasRoom()) {
                return finishAnswer(96);
            }
            int response = finishAnswer(serve(acquirer, m));
            archive.keep(acquirer, m, response, in, last);
            if (blocks.writeOne()) {
                last.clear();
                return CUT;
            }
            return response;
        }

        private void beginAnswer(Message m) {
            int tens = m.type / 10;
            answer.begin((isAnswer(m) ? tens : tens + 1) * 10);
            for (int slot = 0; slot < SLOTS; slot++) {
                if (m.has(slot) && (ECHOED >> slot & 1) == 1) {
                    answer.putRow(slot, m.signs[slot], m.lengths[slot]);
                }
            }
        }

        private int finishAnswer(int response) {
            answer.putFixed(RESPONSE, response, 10);
            answer.writeTo(last);
            return response;
        }

        private int answerAgain(int row) {
            last.copy(archive.answers[row]);
            return archive.responses[row];
        }

        // Of all types that can be read, just those of answers have an odd third digit.
        private static boolean isAnswer(Message m) {
            return m.type / 10 % 2 == 1;
        }

        private static boolean isComplete(Message m) {
            switch (m.type / 10) {
                case 10:
                    return (m.there & ~(1 << NOTE)) == ASK_FIELDS;
                case 22:
                    return m.there == PRESENT_FIELDS;
                case 40:
                case 42:
                    return (m.there & ~(1 << REPLACEMENT)) == UNDO_FIELDS;
                case 50:
                    return m.there == TOTAL_FIELDS;
                case 80:
                    return m.there == NETWORK_FIELDS;
                default:
                    return false;
            }
        }

        private int serve(int acquirer, Message m) {
            switch (m.type / 100) {
                case 1:
                    return authorise(acquirer, m);
                case 2:
                    return clear(acquirer, m);
                case 4:
                    return reverse(acquirer, m);
                default:
                    return reconcile(acquirer, m);
            }
        }

        private int authorise(int acquirer, Message m) {
            int card = table.findCard(m);
            int refused = refusal(acquirer, m, card);
            if (refused != 0 || card == NONE) {
                return refused;
            }
            Account a = table.accountRows[table.cardAccounts[card]];
            long amount = m.numberOf(AMOUNT);
            long free = a.free();
            boolean whole = amount <= free;
            if (!whole && (m.numberOf(MODE) != 1 || free <= 0)) {
                return 51;
            }
            Payment p = book.begin(acquirer, m);
            if (p == null) {
                return 96;
            }
            book.hold(p, a, whole ? amount : free);
            answer.putNumber(AMOUNT, p.held);
            answer.putFixed(APPROVAL, p.number, 36);
            return whole ? 0 : 10;
        }

        // What is wrong before funds are asked; 0 if nothing is.
        private int refusal(int acquirer, Message m, int card) {
            if (book.findKey(acquirer, m) != null) {
                return 94;
            }
            if (m.numberOf(CURRENCY) != EURO) {
                return 12;
            }
            if (m.numberOf(AMOUNT) == 0) {
                return 13;
            }
            if (table.issuerOfCard(m) == NONE) {
                return 92;
            }
            if (card == NONE) {
                return 14;
            }
            if (table.cardBlocked[card]) {
                return 62;
            }
            Account a = table.accountRows[table.cardAccounts[card]];
            if (a.approvedSince(book.time - table.window) >= table.many) {
                return 65;
            }
            return book.used >= PAYMENTS ? 96 : 0;
        }

        private int clear(int acquirer, Message m) {
            Payment p = book.findKey(acquirer, m);
            if (p == null) {
                return 25;
            }
            if (p.state != HELD || !p.hasCard(m) || !p.hasApproval(m)) {
                return 12;
            }
            long amount = m.numberOf(AMOUNT);
            if (amount == 0 || amount > p.held) {
                return 13;
            }
            book.clear(p, amount, m.numberOf(MODE) == 1);
            return 0;
        }

        private int reverse(int acquirer, Message m) {
            Payment p = book.findKey(acquirer, m);
            if (p == null) {
                if (m.type / 10 == 42) {
                    book.begin(acquirer, m);
                }
                return 25;
            }
            boolean astray = p.state == HELD && !m.isOriginalOf(p.trace, acquirer);
            if (!p.hasCard(m) || astray || p.cleared > 0) {
                return 12;
            }
            long left = m.has(REPLACEMENT) ? m.numberOf(REPLACEMENT) : 0;
            if (p.state == HELD && left > 0 && left < p.held) {
                book.holdOnly(p, left);
            } else if (p.state == HELD) {
                book.release(p);
            }
            return 0;
        }

        private int reconcile(int acquirer, Message m) {
            int batchCount = book.positions.batchCount[acquirer];
            long batchSum = book.positions.batchSum[acquirer];
            answer.putNumber(COUNT, batchCount);
            answer.putNumber(SUM, batchSum);
            if (m.numberOf(COUNT) != batchCount || m.numberOf(SUM) != batchSum) {
                return 95;
            }
            book.positions.emptyBatch(acquirer);
            return 0;
        }
    }
}
