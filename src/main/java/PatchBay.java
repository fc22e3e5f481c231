/** A patch bay: channels with tapes of cells, and cables that carry cells from head to head. */
public final class PatchBay {
    public static final int OUTSIDE = -1, FULL = -2;

    private static final int CHANNELS = 16;
    private static final int MOST_CABLES = 24;
    private static final int MOST_CELLS = 32;
    private static final int MOST_TAGS = 200;
    private static final int MOST_PATIENCE = 9;
    private static final int WIDEST_STEP = 3;
    private static final int KEPT_FAULTS = 20;
    private static final int FAULT_PARTS = 3;
    private static final int MOVERS_FROM = 100;

    // The kinds of tapes; a cell has the kind of its tape, or one of the four below.
    private static final int BITS = 0, BYTES = 1, SHORTS = 2, CHARS = 3, INTS = 4;
    private static final int FLOATS = 6, DOUBLES = 7, TAGS = 8, SEALS = 9, RACKS = 10;
    // A cell of tags, seals or racks tells by its own kind what it is, not by its tape's.
    private static final int TAG = 8, SEAL = 9, INT_TAPE = 10, EMPTY = 11;
    // What rack() may be asked to write though no tape takes it: a plug, a tape of no ints.
    private static final int MISFIT = 12;

    private static final int WIRE = 0, GATE = 1, PAIR = 2, SWAP = 3;

    private static final int NONE = 0, NULL = 1, KIND = 2, INDEX = 3, ZERO = 4, SIZE = 5;
    // What a carry answers beside NONE and the refusals.
    private static final int SHUT = -1;

    private static final int HAS_NOTHING = 0, HAS_TAPE = 1, HAS_PLUG = 2;

    private static final int REFUSED = -10;
    private static final int MATCH_OUTSIDE = -101, MATCH_REFUSED = -110;

    private final Channel[] channels = new Channel[CHANNELS];
    private final Cable[] cables = new Cable[MOST_CABLES];
    private int cablesMade = 0;
    private int tagsMade = 0;
    private int time = 0;
    private final int[][] faults = new int[KEPT_FAULTS][FAULT_PARTS];
    private int faultsNoted = 0;
    private final int[] met = new int[SIZE + 1];
    private int latestRefusal = NONE;
    // Cells on their way; made once, since all calls of a run share one room.
    private final Cell hand = new Cell();
    private final Cell otherHand = new Cell();

    public PatchBay() {
        for (int i = 0; i < CHANNELS; i++) {
            channels[i] = new Channel(i);
        }
    }

    // ---- channels

    public int tape(int channel, int kind, int cells) {
        Channel it = channelAt(channel);
        if (it == null || !isTapeKind(kind) || cells > MOST_CELLS) {
            return OUTSIDE;
        }
        if (cells < 0) {
            return answer(SIZE, 0);
        }
        it.hold(new Tape(kind, cells), false);
        return answer(NONE, cells);
    }

    public int plug(int channel) {
        return holdNoTape(channel, true);
    }

    public int strip(int channel) {
        return holdNoTape(channel, false);
    }

    public int share(int channel, int other) {
        Channel it = channelAt(channel);
        Channel giver = channelAt(other);
        if (it == null || giver == null) {
            return OUTSIDE;
        }
        it.hold(giver.tape, giver.plugged);
        return it.has();
    }

    public int head(int channel, int place) {
        Channel it = channelAt(channel);
        if (it == null) {
            return OUTSIDE;
        }
        it.head = place;
        return 1;
    }

    public int step(int channel, int step) {
        Channel it = channelAt(channel);
        if (it == null || step < -WIDEST_STEP || step > WIDEST_STEP) {
            return OUTSIDE;
        }
        int before = it.step;
        it.step = step;
        return before + WIDEST_STEP;
    }

    public int loop(int channel, boolean is) {
        Channel it = channelAt(channel);
        if (it == null) {
            return OUTSIDE;
        }
        boolean was = it.loops;
        it.loops = is;
        return was ? 1 : 0;
    }

    public int stamp(int channel, int i, int as, long number) {
        Channel it = channelAt(channel);
        if (it == null || !isPlain(as)) {
            return OUTSIDE;
        }
        int refusal = it.refusalOfPlain();
        if (refusal == NONE) {
            hand.become(as, fitted(as, number), null);
            refusal = it.write(i, hand);
        }
        return answer(refusal, 1);
    }

    public long probe(int channel, int i, int as) {
        Channel it = channelAt(channel);
        if (it == null || !isPlain(as)) {
            return 0;
        }
        int refusal = it.refusalOfPlain();
        if (refusal == NONE) {
            refusal = it.read(i, hand);
        }
        if (refusal == NONE && !takes(as, hand.kind)) {
            refusal = KIND;
        }
        note(refusal);
        return refusal == NONE ? fitted(as, hand.number) : 0;
    }

    public int tag(int channel, int i, boolean seal) {
        Channel it = channelAt(channel);
        if (it == null) {
            return OUTSIDE;
        }
        if (tagsMade >= MOST_TAGS) {
            return FULL;
        }
        tagsMade++;
        hand.become(seal ? SEAL : TAG, tagsMade, null);
        return answer(it.write(i, hand), tagsMade);
    }

    public int rack(int channel, int i, int other) {
        Channel it = channelAt(channel);
        Channel giver = channelAt(other);
        if (it == null || giver == null) {
            return OUTSIDE;
        }
        giver.asCell(hand);
        return answer(it.write(i, hand), 1);
    }

    public int unrack(int channel, int i, int other) {
        Channel it = channelAt(channel);
        Channel taker = channelAt(other);
        if (it == null || taker == null) {
            return OUTSIDE;
        }
        int refusal = it.read(i, hand);
        if (refusal == NONE && hand.kind != INT_TAPE && hand.kind != EMPTY) {
            refusal = KIND;
        }
        if (refusal != NONE) {
            return answer(refusal, 0);
        }
        taker.hold(hand.tape, false);
        return answer(NONE, hand.tape == null ? 0 : hand.tape.size);
    }

    // ---- cables

    public int cable(int kind, int from, int to) {
        Channel source = channelAt(from);
        Channel target = channelAt(to);
        if (kind < WIRE || kind > SWAP || source == null || target == null) {
            return OUTSIDE;
        }
        if (cablesMade >= MOST_CABLES) {
            return FULL;
        }
        cables[cablesMade] = new Cable(cablesMade, kind, source, target);
        cablesMade++;
        return cablesMade - 1;
    }

    public int patience(int cable, int n) {
        Cable it = cableAt(cable);
        if (it == null || n < 1 || n > MOST_PATIENCE) {
            return OUTSIDE;
        }
        int before = it.patience;
        it.patience = n;
        return before;
    }

    public int pull(int cable) {
        Cable it = cableAt(cable);
        if (it == null) {
            return OUTSIDE;
        }
        boolean was = it.in;
        it.in = false;
        return was ? 1 : 0;
    }

    public int plugIn(int cable) {
        Cable it = cableAt(cable);
        if (it == null) {
            return OUTSIDE;
        }
        boolean was = it.in;
        it.in = true;
        it.strikes = 0;
        return was ? 1 : 0;
    }

    public int tick() {
        time++;
        int carried = 0;
        for (int i = 0; i < cablesMade; i++) {
            Cable it = cableAt(i);
            if (it != null && it.in) {
                int outcome = carry(it);
                keepBooks(it, outcome);
                if (outcome == NONE) {
                    carried++;
                }
            }
        }
        for (int i = 0; i < CHANNELS; i++) {
            Channel it = channelAt(i);
            if (it != null) {
                move(it);
            }
        }
        return carried;
    }

    // ---- by hand

    public int splice(int channel, int i, int other, int j, int n) {
        Channel source = channelAt(channel);
        Channel target = channelAt(other);
        if (source == null || target == null || n < 0 || n > MOST_CELLS) {
            return OUTSIDE;
        }
        for (int written = 0; written < n; written++) {
            int refusal = wire(source, i + written, target, j + written);
            if (refusal != NONE) {
                note(refusal);
                return written;
            }
        }
        note(NONE);
        return n;
    }

    public int dub(int channel, int other, int kind) {
        Channel it = channelAt(channel);
        Channel giver = channelAt(other);
        if (it == null || giver == null || !isTapeKind(kind)) {
            return OUTSIDE;
        }
        Tape from = giver.tape;
        if (from == null) {
            return answer(giver.refusalWithoutTape(), 0);
        }
        Tape made = new Tape(kind, from.size);
        int refusal = NONE;
        for (int i = 0; i < from.size && refusal == NONE; i++) {
            refusal = from.copyTo(i, hand);
            if (refusal == NONE) {
                refusal = made.accept(i, hand);
            }
        }
        if (refusal == NONE) {
            it.hold(made, false);
        }
        return answer(refusal, made.size);
    }

    public long sum(int channel) {
        Channel it = channelAt(channel);
        if (it == null) {
            return 0;
        }
        Tape tape = it.tape;
        if (tape == null) {
            note(it.refusalWithoutTape());
            return 0;
        }
        long sum = 0;
        for (int i = 0; i < tape.size; i++) {
            sum += tape.numbers[i];
        }
        note(NONE);
        return sum;
    }

    public int match(int channel, int other) {
        Channel one = channelAt(channel);
        Channel two = channelAt(other);
        if (one == null || two == null) {
            return MATCH_OUTSIDE;
        }
        Tape first = one.tape;
        Tape second = two.tape;
        if (first == null || second == null) {
            int refusal = first == null ? one.refusalWithoutTape() : two.refusalWithoutTape();
            note(refusal);
            return MATCH_REFUSED - refusal;
        }
        note(NONE);
        int both = Math.min(first.size, second.size);
        for (int i = 0; i < both; i++) {
            if (first.numbers[i] != second.numbers[i]) {
                return i;
            }
        }
        return first.size == second.size ? -1 - both : both;
    }

    public int why() {
        return latestRefusal;
    }

    // ---- what is told

    public long number(int channel, int i) {
        Channel it = channelAt(channel);
        if (it == null) {
            return 0;
        }
        int refusal = it.read(i, hand);
        note(refusal);
        return refusal == NONE ? hand.number : 0;
    }

    public int kind(int channel, int i) {
        Channel it = channelAt(channel);
        if (it == null) {
            return OUTSIDE;
        }
        int refusal = it.read(i, hand);
        return answer(refusal, hand.kind);
    }

    public int cells(int channel) {
        Channel it = channelAt(channel);
        if (it == null) {
            return OUTSIDE;
        }
        Tape tape = it.tape;
        if (tape == null) {
            return answer(it.refusalWithoutTape(), 0);
        }
        return answer(NONE, tape.size);
    }

    public int of(int channel, int what) {
        Channel it = channelAt(channel);
        if (it == null) {
            return Integer.MIN_VALUE;
        }
        switch (what) {
            case 0: return it.head;
            case 1: return it.step;
            case 2: return it.loops ? 1 : 0;
            case 3: return it.has();
            default: return Integer.MIN_VALUE;
        }
    }

    public int told(int cable, int what) {
        Cable it = cableAt(cable);
        if (it == null) {
            return OUTSIDE;
        }
        switch (what) {
            case 0: return it.kind;
            case 1: return it.from.place;
            case 2: return it.to.place;
            case 3: return it.in ? 1 : 0;
            case 4: return it.patience;
            case 5: return it.strikes;
            case 6: return it.timesCarried;
            case 7: return it.timesShut;
            default: return OUTSIDE;
        }
    }

    public int fault(int i, int what) {
        int kept = Math.min(faultsNoted, KEPT_FAULTS);
        if (i < 0 || i >= kept || what < 0 || what >= FAULT_PARTS) {
            return OUTSIDE;
        }
        return faults[Math.floorMod(faultsNoted - 1 - i, KEPT_FAULTS)][what];
    }

    public int count(int what) {
        switch (what) {
            case 0: return cablesMade;
            case 1: return time;
            case 2: return faultsNoted;
            default: return timesMet(what - 2);
        }
    }

    // ---- channels, cables and kinds by their numbers

    private Channel channelAt(int i) {
        return i < 0 || i >= CHANNELS ? null : channels[i];
    }

    private Cable cableAt(int i) {
        return i < 0 || i >= MOST_CABLES ? null : cables[i];
    }

    private int holdNoTape(int channel, boolean plug) {
        Channel it = channelAt(channel);
        if (it == null) {
            return OUTSIDE;
        }
        int had = it.has();
        it.hold(null, plug);
        return had;
    }

    private static boolean isPlain(int kind) {
        return kind >= BITS && kind <= DOUBLES;
    }

    private static boolean isTapeKind(int kind) {
        return kind >= BITS && kind <= RACKS;
    }

    private static boolean takes(int tapeKind, int cellKind) {
        switch (tapeKind) {
            case TAGS:
                return cellKind == TAG || cellKind == SEAL || cellKind == EMPTY;
            case SEALS:
                return cellKind == SEAL || cellKind == EMPTY;
            case RACKS:
                return cellKind == INT_TAPE || cellKind == EMPTY;
            case BITS:
            case BYTES:
            case CHARS:
                return cellKind == tapeKind;
            case SHORTS:
                return cellKind == BYTES || cellKind == SHORTS;
            default:
                // From ints on, each plain kind takes all plain ones before it but bits.
                return cellKind >= BYTES && cellKind <= tapeKind;
        }
    }

    /**
     * A number as a cell of a kind has it. Floats and doubles are whole here, so a long can
     * hold them: 2^63 alone is no long, and its stand-in 2^63 - 1 comes back as 2^63.
     */
    private static long fitted(int kind, long number) {
        switch (kind) {
            case BITS: return number != 0 ? 1 : 0;
            case BYTES: return (byte) number;
            case SHORTS: return (short) number;
            case CHARS: return (char) number;
            case INTS: return (int) number;
            case FLOATS: return (long) (float) number;
            case DOUBLES: return (long) (double) number;
            default: return number;
        }
    }

    // ---- refusals and faults

    private void meet(int refusal) {
        if (refusal > NONE && refusal < met.length) {
            met[refusal]++;
        }
    }

    private int timesMet(int refusal) {
        return refusal > NONE && refusal < met.length ? met[refusal] : OUTSIDE;
    }

    /** What a call tells why() of, and counts. */
    private void note(int refusal) {
        latestRefusal = refusal;
        meet(refusal);
    }

    private int answer(int refusal, int otherwise) {
        note(refusal);
        return refusal == NONE ? otherwise : REFUSED - refusal;
    }

    private void noteFault(int who, int refusal) {
        int[] fault = faults[Math.floorMod(faultsNoted, KEPT_FAULTS)];
        fault[0] = time;
        fault[1] = who;
        fault[2] = refusal;
        faultsNoted++;
        meet(refusal);
    }

    // ---- what a tick does

    private void keepBooks(Cable it, int outcome) {
        if (outcome != NONE && outcome != SHUT) {
            noteFault(it.place, outcome);
            it.strike();
            return;
        }
        it.strikes = 0;
        if (outcome == SHUT) {
            it.timesShut++;
        } else {
            it.timesCarried++;
        }
    }

    private int carry(Cable it) {
        int x = it.from.head;
        int y = it.to.head;
        switch (it.kind) {
            case GATE: return gate(it.from, x, it.to, y);
            case PAIR: return pair(it.from, x, it.to, y);
            case SWAP: return swap(it.from, x, it.to, y);
            default: return wire(it.from, x, it.to, y);
        }
    }

    private int wire(Channel from, int x, Channel to, int y) {
        int refusal = from.read(x, hand);
        return refusal != NONE ? refusal : to.write(y, hand);
    }

    private int gate(Channel from, int x, Channel to, int y) {
        int refusal = from.read(x, hand);
        if (refusal != NONE) {
            return refusal;
        }
        return hand.number == 0 ? SHUT : to.write(y, hand);
    }

    private int pair(Channel from, int x, Channel to, int y) {
        int refusal = wire(from, x, to, y);
        return refusal != NONE ? refusal : wire(from, x + 1, to, y + 1);
    }

    private int swap(Channel from, int x, Channel to, int y) {
        int refusal = from.read(x, hand);
        if (refusal == NONE) {
            refusal = to.read(y, otherHand);
        }
        if (refusal == NONE) {
            refusal = to.write(y, hand);
        }
        if (refusal != NONE) {
            return refusal;
        }
        refusal = from.write(x, otherHand);
        if (refusal != NONE) {
            // No refusal here: a tape takes what was its own.
            to.write(y, otherHand);
        }
        return refusal;
    }

    private void move(Channel it) {
        int moved = it.head + it.step;
        if (!it.loops) {
            it.head = moved;
            return;
        }
        Tape tape = it.tape;
        if (tape == null) {
            noteFault(MOVERS_FROM + it.place, it.refusalWithoutTape());
        } else if (tape.size == 0) {
            noteFault(MOVERS_FROM + it.place, ZERO);
        } else {
            it.head = Math.floorMod(moved, tape.size);
        }
    }

    // ---- the parts of a patch bay

    /** A cell that was read, or is to be written. */
    private static final class Cell {
        int kind = EMPTY;
        long number = 0;
        Tape tape = null;

        void become(int newKind, long newNumber, Tape newTape) {
            kind = newKind;
            number = newNumber;
            tape = newTape;
        }
    }

    private static final class Tape {
        final int kind;
        final int size;
        private final int[] kinds;
        final long[] numbers;
        private final Tape[] tapes;

        /** The size is 0 or more. */
        Tape(int kind, int size) {
            this.kind = kind;
            this.size = size;
            kinds = new int[size];
            numbers = new long[size];
            tapes = new Tape[size];
            for (int i = 0; i < size; i++) {
                kinds[i] = isPlain(kind) ? kind : EMPTY;
            }
        }

        int copyTo(int i, Cell cell) {
            if (i < 0 || i >= size) {
                return INDEX;
            }
            cell.become(kinds[i], numbers[i], tapes[i]);
            return NONE;
        }

        int accept(int i, Cell cell) {
            if (cell.kind == EMPTY && isPlain(kind)) {
                return KIND;
            }
            if (i < 0 || i >= size) {
                return INDEX;
            }
            if (!takes(kind, cell.kind)) {
                return KIND;
            }
            kinds[i] = isPlain(kind) ? kind : cell.kind;
            numbers[i] = fitted(kind, cell.number);
            tapes[i] = cell.tape;
            return NONE;
        }
    }

    private static final class Channel {
        final int place;
        Tape tape = null;
        boolean plugged = false;
        int head = 0;
        int step = 1;
        boolean loops = false;

        Channel(int place) {
            this.place = place;
        }

        void hold(Tape newTape, boolean plug) {
            tape = newTape;
            plugged = plug;
        }

        int has() {
            if (tape != null) {
                return HAS_TAPE;
            }
            return plugged ? HAS_PLUG : HAS_NOTHING;
        }

        int refusalWithoutTape() {
            return plugged ? KIND : NULL;
        }

        int refusalOfPlain() {
            if (tape == null) {
                return refusalWithoutTape();
            }
            return isPlain(tape.kind) ? NONE : KIND;
        }

        int read(int i, Cell cell) {
            return tape == null ? refusalWithoutTape() : tape.copyTo(i, cell);
        }

        int write(int i, Cell cell) {
            return tape == null ? refusalWithoutTape() : tape.accept(i, cell);
        }

        /** What the channel has, as a cell of a rack. */
        void asCell(Cell cell) {
            if (tape != null && tape.kind == INTS) {
                cell.become(INT_TAPE, tape.size, tape);
            } else if (has() == HAS_NOTHING) {
                cell.become(EMPTY, 0, null);
            } else {
                cell.become(MISFIT, 0, null);
            }
        }
    }

    private static final class Cable {
        final int place;
        final int kind;
        final Channel from;
        final Channel to;
        boolean in = true;
        int patience = 1;
        int strikes = 0;
        int timesCarried = 0;
        int timesShut = 0;

        Cable(int place, int kind, Channel from, Channel to) {
            this.place = place;
            this.kind = kind;
            this.from = from;
            this.to = to;
        }

        /** Strikes beyond a patience that was made less later do not put the cable out. */
        void strike() {
            strikes++;
            if (strikes == patience) {
                in = false;
            }
        }
    }
}
