import java.util.ArrayList;

/** Four cash machines and their bank, and the network between them. */
public final class CashLink {
    private static final int MACHINES = 4;
    /** The number that power and on have for the BANK. */
    private static final int BANK = 4;
    private static final int ACCOUNTS = 200;
    private static final int FIRST_BALANCE = 500;
    private static final int CASSETTES = 4;

    private final Network network;
    private final Bank bank;
    private final Machine[] machines = new Machine[MACHINES];
    /** What the customers of each ACCOUNT took, at whatever MACHINE. */
    private final int[] takenBy;

    public CashLink() {
        Network wire = new Network();
        int[] purses = new int[ACCOUNTS];
        network = wire;
        takenBy = purses;
        bank = new Bank(wire);
        for (int m = 0; m < MACHINES; m++) {
            machines[m] = new Machine(m, wire, purses);
        }
    }

    public void card(int m, int a) throws IllegalArgumentException, IllegalStateException {
        Machine machine = machineAt(m);
        allow(isAccount(a));
        machine.insert(a);
    }

    public boolean pin(int m, int p) throws IllegalArgumentException, IllegalStateException {
        return machineAt(m).enter(p);
    }

    public int ask(int m, int v) throws IllegalArgumentException, IllegalStateException,
            UnsupportedOperationException, ArithmeticException {
        Machine machine = machineAt(m);
        allow(v >= 5 && v <= 1000);
        return machine.request(v);
    }

    public void cancel(int m) throws IllegalArgumentException, IllegalStateException, ArithmeticException {
        machineAt(m).giveUp();
    }

    public int again(int m) throws IllegalArgumentException, IllegalStateException {
        return machineAt(m).repeatReversals();
    }

    public int settle(int m) throws IllegalArgumentException, IllegalStateException {
        return machineAt(m).sendTotals();
    }

    public int deliver(int k) throws IndexOutOfBoundsException, ArithmeticException {
        Message message = messageAt(k);
        int before = network.size();
        if (message.type().toBank) {
            bank.receive(message);
        } else {
            machines[message.machine()].receive(message);
        }
        return network.size() - before;
    }

    public void jam(int m, int j) throws IllegalArgumentException {
        Machine machine = machineAt(m);
        allow(j >= 0 && j <= Dispenser.NO_JAM);
        machine.dispenser.jamAfter = j;
    }

    public int load(int m, int c, int n) throws IllegalArgumentException, IllegalStateException {
        Machine machine = machineAt(m);
        allow(isCassette(c) && n >= 1 && n <= 100);
        return machine.dispenser.fill(c, n);
    }

    public void power(int w, int k, int b) throws IllegalArgumentException {
        allow(w >= 0 && w <= BANK && k >= 0 && k <= 50 && b >= 0 && b <= Journal.NEVER);
        Journal journal = w == BANK ? bank.journal : machines[w].journal;
        journal.planFailure(k, b);
    }

    public int on(int w) throws IllegalArgumentException, ArithmeticException {
        return w == BANK ? bank.turnOn() : machineAt(w).turnOn();
    }

    public int told(int m, int what) throws IllegalArgumentException {
        Machine machine = machineAt(m);
        allow(what >= 0 && what <= 10);
        return what <= 3 ? machine.tell(what) : machine.dispenser.tell(what);
    }

    public int balance(int a) throws IllegalArgumentException {
        allow(isAccount(a));
        return bank.balanceOf(a);
    }

    public int taken(int a) throws IllegalArgumentException {
        allow(isAccount(a));
        return takenBy[a];
    }

    public int byteAt(int k, int i) throws IndexOutOfBoundsException {
        Message message = messageAt(k);
        if (i < 0) {
            throw new IndexOutOfBoundsException("no byte has a number below 0");
        }
        StringBuilder bytes = message.bytes();
        return i < bytes.length() ? bytes.charAt(i) : -1;
    }

    public int mix(int m, int v, int c) throws IllegalArgumentException {
        Machine machine = machineAt(m);
        allow(isCassette(c) && v >= 0 && v <= 1000);
        int mix = machine.dispenser.mixOf(v);
        return mix == Dispenser.NO_MIX ? -1 : Dispenser.notesIn(mix, c);
    }

    public int count(int what) throws IllegalArgumentException {
        switch (what) {
            case 0:
                return network.size();
            case 1:
                return bank.journal.isOn() ? 1 : 0;
            case 2:
                return bank.journal.size();
            case 3:
                return allBalances();
            case 4:
                return accountsOff(false);
            case 5:
                return isQuiet() ? accountsOff(true) : 0;
            case 6:
                return bank.wrongTotals;
            default:
                throw new IllegalArgumentException("nothing of that number is counted");
        }
    }

    private Machine machineAt(int m) {
        allow(m >= 0 && m < MACHINES);
        return machines[m];
    }

    private Message messageAt(int k) {
        if (k < 0 || k >= network.size()) {
            throw new IndexOutOfBoundsException("no such MESSAGE");
        }
        return network.sent(k);
    }

    private int allBalances() {
        int sum = 0;
        for (int a = 0; a < ACCOUNTS; a++) {
            sum += bank.balanceOf(a);
        }
        return sum;
    }

    /** ACCOUNTS that have, with what was taken, more than at first; also those that have less, if asked for. */
    private int accountsOff(boolean alsoLess) {
        int found = 0;
        for (int a = 0; a < ACCOUNTS; a++) {
            int more = bank.balanceOf(a) + takenBy[a] - FIRST_BALANCE;
            if (more > 0 || alsoLess && more < 0) {
                found++;
            }
        }
        return found;
    }

    private boolean isQuiet() {
        for (int m = 0; m < MACHINES; m++) {
            if (!machines[m].isQuiet()) {
                return false;
            }
        }
        return true;
    }

    private static boolean isAccount(int a) {
        return a >= 0 && a < ACCOUNTS;
    }

    private static boolean isCassette(int c) {
        return c >= 0 && c < CASSETTES;
    }

    private static void allow(boolean argumentsFit) {
        if (!argumentsFit) {
            throw new IllegalArgumentException("an argument is out of its range");
        }
    }

    private static void demand(boolean stateFits) {
        if (!stateFits) {
            throw new IllegalStateException("not in this state");
        }
    }

    /** The TYPES of MESSAGES; all that go to the BANK have an amount, no answer has one. */
    private enum Type {
        REQUEST("0200", true, true, false),
        REQUEST_ANSWER("0210", false, false, true),
        REVERSAL("0420", true, false, false),
        REVERSAL_ANSWER("0430", false, false, false),
        TOTALS("0500", true, false, false),
        TOTALS_ANSWER("0510", false, false, true);

        final String digits;
        final boolean toBank;
        final boolean hasAccount;
        final boolean hasAnswer;

        Type(String digits, boolean toBank, boolean hasAccount, boolean hasAnswer) {
            this.digits = digits;
            this.toBank = toBank;
            this.hasAccount = hasAccount;
            this.hasAnswer = hasAnswer;
        }
    }

    /** A MESSAGE; a field that its TYPE does not have is 0. */
    private record Message(Type type, int machine, int trace, int account, int amount, int answer) {

        /** Made when it is looked at: few of the MESSAGES ever are. */
        StringBuilder bytes() {
            StringBuilder out = new StringBuilder();
            out.append(type.digits);
            appendBitmap(out);
            if (type.hasAccount) {
                appendDigits(out, 3, 2);
                appendDigits(out, account, 3);
            }
            if (type.toBank) {
                appendDigits(out, amount, 12);
            }
            appendDigits(out, trace, 6);
            if (type.hasAnswer) {
                appendDigits(out, answer, 2);
            }
            appendDigits(out, machine, 8);
            return out;
        }

        private void appendBitmap(StringBuilder out) {
            int field2 = type.hasAccount ? 0x40 : 0;
            int field4 = type.toBank ? 0x10 : 0;
            int field11 = 0x20;
            int field39 = type.hasAnswer ? 0x02 : 0;
            int field41 = 0x80;
            out.append((char) (field2 | field4));
            out.append((char) field11);
            out.append((char) 0);
            out.append((char) 0);
            out.append((char) field39);
            out.append((char) field41);
            out.append((char) 0);
            out.append((char) 0);
        }

        private static void appendDigits(StringBuilder out, int number, int width) {
            int start = out.length();
            for (int i = 0; i < width; i++) {
                out.append('0');
            }
            int rest = number;
            for (int at = start + width - 1; at >= start; at--) {
                out.setCharAt(at, (char) ('0' + rest % 10));
                rest /= 10;
            }
        }
    }

    /** Holds every MESSAGE that was ever sent: each may come any number of times. */
    private static final class Network {
        private static final int MOST = 3000;

        private final ArrayList<Message> messages = new ArrayList<>();

        int size() {
            return messages.size();
        }

        Message sent(int k) {
            return messages.get(k);
        }

        /** Says whether it was sent: beyond the limit nothing is. */
        boolean send(Type type, int machine, int trace, int account, int amount, int answer) {
            if (messages.size() >= MOST) {
                return false;
            }
            messages.add(new Message(type, machine, trace, account, amount, answer));
            return true;
        }
    }

    /** A RECORD; value is an amount, a MIX, what came out or what is given back, as its kind has it. */
    private record Entry(int kind, int machine, int trace, int account, int value, int answer) {
        static final int ASKED = 1;
        static final int MIXED = 2;
        static final int CAME_OUT = 3;
        static final int VOIDED = 4;
        static final int ENDED = 5;
        static final int ANSWERED = 6;
        static final int GIVEN_BACK = 7;

        Entry(int kind, int machine, int trace, int value) {
            this(kind, machine, trace, 0, value, 0);
        }

        boolean is(int otherKind, int otherMachine, int otherTrace) {
            return kind == otherKind && machine == otherMachine && trace == otherTrace;
        }
    }

    /** The whole RECORDS of the BANK or a MACHINE, and its power, which fails at a RECORD or not at all. */
    private static final class Journal {
        static final int NEVER = 17;
        private static final int RECORD_BYTES = 16;

        private final ArrayList<Entry> entries = new ArrayList<>();
        private final int limit;
        private boolean powered = true;
        private int recordsBeforeFailure;
        private int bytesAtFailure = NEVER;

        Journal(int limit) {
            this.limit = limit;
        }

        int size() {
            return entries.size();
        }

        Entry entry(int i) {
            return entries.get(i);
        }

        boolean hasRoomFor(int more) {
            return entries.size() + more <= limit;
        }

        boolean isOn() {
            return powered;
        }

        void turnOn() {
            powered = true;
        }

        void planFailure(int records, int bytes) {
            recordsBeforeFailure = records;
            bytesAtFailure = bytes;
        }

        /** A RECORD that is not whole is counted nowhere and goes when power is back: it is never kept. */
        void write(Entry entry) {
            boolean fails = bytesAtFailure != NEVER && recordsBeforeFailure == 0;
            if (!fails || bytesAtFailure == RECORD_BYTES) {
                entries.add(entry);
            }
            if (fails) {
                bytesAtFailure = NEVER;
                powered = false;
                throw new ArithmeticException("power failed");
            }
            if (bytesAtFailure != NEVER) {
                recordsBeforeFailure--;
            }
        }

        /** The RECORD of these, or null. */
        Entry find(int kind, int machine, int trace) {
            for (int i = entries.size() - 1; i >= 0; i--) {
                Entry entry = entries.get(i);
                if (entry.is(kind, machine, trace)) {
                    return entry;
                }
            }
            return null;
        }
    }

    /** The notes of a MACHINE; it remembers what it did last, with or without power. */
    private static final class Dispenser {
        /** More notes than any MIX has: all come out. */
        static final int NO_JAM = 41;
        static final int NO_MIX = -1;
        private static final int MOST_NOTES = 40;
        private static final int MOST_IN_CASSETTE = 500;
        private static final int[] WORTH = {5, 10, 20, 50};

        private final int[] notes = {30, 30, 30, 30};
        int jamAfter = NO_JAM;
        private int lastTrace;
        private int lastValue;
        private int allValue;

        int fill(int cassette, int more) {
            demand(notes[cassette] + more <= MOST_IN_CASSETTE);
            notes[cassette] += more;
            return notes[cassette];
        }

        /**
         * The MIX of an amount, a byte for each CASSETTE (0 in the lowest), or NO_MIX.
         * Of 20, 10 and 5 each divides the one before, so that to take the most of each in turn is the
         * fewest notes; 50 is no multiple of 20, so that every number of these is tried, the most first.
         */
        int mixOf(int amount) {
            int best = NO_MIX;
            int fewest = MOST_NOTES + 1;
            for (int fifties = Math.min(notes[3], amount / 50); fifties >= 0; fifties--) {
                int rest = amount - 50 * fifties;
                int twenties = Math.min(notes[2], rest / 20);
                rest -= 20 * twenties;
                int tens = Math.min(notes[1], rest / 10);
                rest -= 10 * tens;
                int fives = rest / 5;
                int together = fifties + twenties + tens + fives;
                if (rest % 5 == 0 && fives <= notes[0] && together < fewest) {
                    fewest = together;
                    best = fifties << 24 | twenties << 16 | tens << 8 | fives;
                }
            }
            return best;
        }

        static int notesIn(int mix, int cassette) {
            return (mix >> (8 * cassette)) & 255;
        }

        /** The value that comes out now. */
        int dispense(int trace, int mix) {
            if (trace == lastTrace) {
                return 0;
            }
            int left = jamAfter;
            jamAfter = NO_JAM;
            int value = 0;
            for (int c = CASSETTES - 1; c >= 0; c--) {
                int out = Math.min(notesIn(mix, c), left);
                left -= out;
                notes[c] -= out;
                value += out * WORTH[c];
            }
            lastTrace = trace;
            lastValue = value;
            allValue += value;
            return value;
        }

        int cameOutFor(int trace) {
            return trace == lastTrace ? lastValue : 0;
        }

        int tell(int what) {
            if (what >= 4 && what <= 7) {
                return notes[what - 4];
            }
            if (what == 8) {
                return lastTrace;
            }
            return what == 9 ? lastValue : allValue;
        }
    }

    /** What a MACHINE that is ON does; the number is what told tells of it. */
    private enum State {
        EMPTY(1), CARD(2), READY(3), WAITS(4);

        final int number;

        State(int number) {
            this.number = number;
        }
    }

    private static final class Machine {
        private static final int ROOM = 1200;
        /** A withdrawal has at most five RECORDS. */
        private static final int MOST_RECORDS = 5;
        private static final int MOST_WRONG_PINS = 3;

        private final int id;
        private final Network network;
        private final int[] takenBy;
        final Journal journal = new Journal(ROOM);
        final Dispenser dispenser = new Dispenser();
        private State state = State.EMPTY;
        private int account;
        private int wrongPins;
        private int trace;
        private int amount;
        /** The RECORDS 4 of the VOIDS. */
        private final ArrayList<Entry> voids = new ArrayList<>();

        Machine(int id, Network network, int[] takenBy) {
            this.id = id;
            this.network = network;
            this.takenBy = takenBy;
        }

        void insert(int newAccount) {
            demand(journal.isOn() && state == State.EMPTY);
            account = newAccount;
            wrongPins = 0;
            state = State.CARD;
        }

        boolean enter(int pin) {
            demand(journal.isOn() && state == State.CARD);
            if (pin == 1000 + 37 * account) {
                state = State.READY;
                return true;
            }
            wrongPins++;
            if (wrongPins == MOST_WRONG_PINS) {
                state = State.EMPTY;
            }
            return false;
        }

        int request(int newAmount) {
            demand(journal.isOn() && state == State.READY);
            boolean hasMix = dispenser.mixOf(newAmount) != Dispenser.NO_MIX;
            if (!hasMix || !journal.hasRoomFor(MOST_RECORDS + voids.size())) {
                throw new UnsupportedOperationException("no MIX, or no room in the JOURNAL");
            }
            journal.write(new Entry(Entry.ASKED, id, trace + 1, account, newAmount, 0));
            trace++;
            amount = newAmount;
            network.send(Type.REQUEST, id, trace, account, amount, 0);
            state = State.WAITS;
            return trace;
        }

        void giveUp() {
            demand(journal.isOn() && state != State.EMPTY);
            if (state == State.WAITS) {
                voidRest(0);
            }
            state = State.EMPTY;
        }

        int repeatReversals() {
            demand(journal.isOn());
            for (int i = 0; i < voids.size(); i++) {
                Entry voided = voids.get(i);
                network.send(Type.REVERSAL, id, voided.trace(), 0, voided.value(), 0);
            }
            return voids.size();
        }

        int sendTotals() {
            demand(isQuiet());
            int sum = 0;
            for (int i = 0; i < journal.size(); i++) {
                Entry entry = journal.entry(i);
                if (entry.kind() == Entry.CAME_OUT) {
                    sum += entry.value();
                }
            }
            network.send(Type.TOTALS, id, trace, 0, sum, 0);
            return sum;
        }

        void receive(Message message) {
            if (!journal.isOn()) {
                return;
            }
            if (message.type() == Type.REVERSAL_ANSWER) {
                endVoid(message.trace());
            } else if (message.type() == Type.REQUEST_ANSWER && isAwaited(message.trace())) {
                if (message.answer() == Bank.GRANTED) {
                    payOut();
                } else {
                    journal.write(new Entry(Entry.ENDED, id, trace, 0));
                }
                state = State.EMPTY;
            }
        }

        private boolean isAwaited(int ofTrace) {
            return state == State.WAITS && ofTrace == trace;
        }

        private void payOut() {
            int mix = dispenser.mixOf(amount);
            if (mix == Dispenser.NO_MIX) {
                voidRest(0);
                return;
            }
            journal.write(new Entry(Entry.MIXED, id, trace, mix));
            takenBy[account] += dispenser.dispense(trace, mix);
            endPayment();
        }

        private void endPayment() {
            int value = dispenser.cameOutFor(trace);
            journal.write(new Entry(Entry.CAME_OUT, id, trace, value));
            voidRest(value);
        }

        /** A VOID of what did not come out, if there is such a rest. */
        private void voidRest(int cameOut) {
            int rest = amount - cameOut;
            if (rest > 0) {
                Entry voided = new Entry(Entry.VOIDED, id, trace, rest);
                journal.write(voided);
                voids.add(voided);
                network.send(Type.REVERSAL, id, trace, 0, rest, 0);
            }
        }

        private void endVoid(int ofTrace) {
            if (isVoid(ofTrace)) {
                journal.write(new Entry(Entry.ENDED, id, ofTrace, 0));
                forgetVoid(ofTrace);
            }
        }

        private boolean isVoid(int ofTrace) {
            for (int i = 0; i < voids.size(); i++) {
                if (voids.get(i).trace() == ofTrace) {
                    return true;
                }
            }
            return false;
        }

        private void forgetVoid(int ofTrace) {
            for (int i = voids.size() - 1; i >= 0; i--) {
                if (voids.get(i).trace() == ofTrace) {
                    voids.remove(i);
                }
            }
        }

        int turnOn() {
            int whole = journal.size();
            journal.turnOn();
            state = State.EMPTY;
            recall();
            finishLast();
            return whole;
        }

        /** Without power it forgot all but its RECORDS. */
        private void recall() {
            trace = 0;
            voids.clear();
            for (int i = 0; i < journal.size(); i++) {
                Entry entry = journal.entry(i);
                if (entry.kind() == Entry.ASKED) {
                    trace = entry.trace();
                    amount = entry.value();
                } else if (entry.kind() == Entry.VOIDED) {
                    voids.add(entry);
                } else if (entry.kind() == Entry.ENDED) {
                    forgetVoid(entry.trace());
                }
            }
        }

        /** Only the last withdrawal can have been cut off: the next is not asked for before it is over. */
        private void finishLast() {
            if (trace == 0 || has(Entry.VOIDED) || has(Entry.ENDED)) {
                return;
            }
            Entry cameOut = journal.find(Entry.CAME_OUT, id, trace);
            if (cameOut != null) {
                voidRest(cameOut.value());
            } else if (has(Entry.MIXED)) {
                endPayment();
            } else {
                voidRest(0);
            }
        }

        private boolean has(int kind) {
            return journal.find(kind, id, trace) != null;
        }

        boolean isQuiet() {
            return journal.isOn() && state != State.WAITS && voids.isEmpty();
        }

        int tell(int what) {
            if (what == 3) {
                return journal.size();
            }
            if (!journal.isOn()) {
                return what == 0 ? 0 : -1;
            }
            if (what == 0) {
                return state.number;
            }
            return what == 1 ? trace : voids.size();
        }
    }

    private static final class Bank {
        private static final int ROOM = 4000;
        static final int GRANTED = 0;
        private static final int TOO_LITTLE = 1;
        private static final int REVERSED = 3;
        private static final int OTHER_TOTAL = 4;

        private final Network network;
        final Journal journal = new Journal(ROOM);
        private final int[] balances = new int[ACCOUNTS];
        /** How many RECORDS the balances hold: one at which power failed may be whole, and counts. */
        private int booked;
        int wrongTotals;

        Bank(Network network) {
            this.network = network;
            for (int a = 0; a < ACCOUNTS; a++) {
                balances[a] = FIRST_BALANCE;
            }
        }

        int turnOn() {
            journal.turnOn();
            return journal.size();
        }

        int balanceOf(int account) {
            while (booked < journal.size()) {
                Entry entry = journal.entry(booked);
                balances[entry.account()] += changeBy(entry);
                booked++;
            }
            return balances[account];
        }

        /** By how much a RECORD changes the BALANCE of its ACCOUNT. */
        private static int changeBy(Entry entry) {
            if (entry.kind() == Entry.GIVEN_BACK) {
                return entry.value();
            }
            return entry.answer() == GRANTED ? -entry.value() : 0;
        }

        void receive(Message message) {
            if (!journal.isOn()) {
                return;
            }
            if (message.type() == Type.REQUEST) {
                answerRequest(message);
            } else if (message.type() == Type.REVERSAL) {
                answerReversal(message);
            } else {
                answerTotals(message);
            }
        }

        private void answerRequest(Message message) {
            Entry answered = find(Entry.ANSWERED, message);
            if (answered == null) {
                if (!journal.hasRoomFor(1)) {
                    return;
                }
                answered = new Entry(Entry.ANSWERED, message.machine(), message.trace(),
                        message.account(), message.amount(), decide(message));
                journal.write(answered);
            }
            reply(Type.REQUEST_ANSWER, message, answered.answer());
        }

        private int decide(Message message) {
            if (find(Entry.GIVEN_BACK, message) != null) {
                return REVERSED;
            }
            return balanceOf(message.account()) < message.amount() ? TOO_LITTLE : GRANTED;
        }

        private void answerReversal(Message message) {
            if (find(Entry.GIVEN_BACK, message) == null) {
                if (!journal.hasRoomFor(1)) {
                    return;
                }
                journal.write(givenBack(message));
            }
            reply(Type.REVERSAL_ANSWER, message, 0);
        }

        private Entry givenBack(Message message) {
            Entry answered = find(Entry.ANSWERED, message);
            boolean granted = answered != null && answered.answer() == GRANTED;
            int account = granted ? answered.account() : 0;
            int value = granted ? message.amount() : 0;
            return new Entry(Entry.GIVEN_BACK, message.machine(), message.trace(), account, value, 0);
        }

        private void answerTotals(Message message) {
            boolean same = totalOf(message.machine(), message.trace()) == message.amount();
            boolean sent = reply(Type.TOTALS_ANSWER, message, same ? GRANTED : OTHER_TOTAL);
            if (sent && !same) {
                wrongTotals++;
            }
        }

        private int totalOf(int machine, int lastTrace) {
            int sum = 0;
            for (int i = 0; i < journal.size(); i++) {
                Entry entry = journal.entry(i);
                if (entry.machine() == machine && entry.trace() <= lastTrace) {
                    sum -= changeBy(entry);
                }
            }
            return sum;
        }

        private Entry find(int kind, Message message) {
            return journal.find(kind, message.machine(), message.trace());
        }

        private boolean reply(Type type, Message message, int answer) {
            return network.send(type, message.machine(), message.trace(), 0, 0, answer);
        }
    }
}
