/** The Terms of cells: what each tape takes, in what order a place is refused, and numbers. */
public final class CellsTest {
    private static final int NULL = 1, KIND = 2, INDEX = 3;
    // A sign for each kind of cell: the plain ones, a tag, a seal, a tape of ints, an empty one.
    private static final String CELLS = "01234567tsre";
    // By the kind of a tape: the cells that it takes.
    private static final String[] TAKEN = {
        "0", "1", "12", "3", "1234", "12345", "123456", "1234567", "tse", "se", "re",
    };
    private static final int SOURCE = 0, TARGET = 1, SPARE = 2;
    private static final int TO_NOTHING = -1, TO_PLUG = 11;
    private static final int SIZE = 3;

    public static void main(String[] args) {
        firstCells();
        writes();
        wires();
        swaps();
        dubs();
        reads();
        sharedTapes();
        channelsKeepTheirHeads();
        whole();
        halfway();
        widest();
        madeThenWritten();
        Due.close();
    }

    /** "0 to 32 CELLS (0 at first; of KINDS 8 to 10 EMPTY)". */
    private static void firstCells() {
        for (int kind = 0; kind <= 10; kind++) {
            PatchBay x = new PatchBay();
            x.tape(0, kind, 32);
            Due.is("most cells of kind " + kind, x.cells(0), 32);
            for (int i : new int[] {0, 31}) {
                Due.is("number at first", x.number(0, i), 0);
                Due.is("kind at first", x.kind(0, i), kind < 8 ? kind : 11);
            }
            Due.is("the last cell is 31", x.kind(0, 32), -13);
            Due.is("no cells", x.tape(0, kind, 0), 0);
            Due.is("no first cell", x.kind(0, 0), -13);
            Due.is("one cell", x.tape(0, kind, 1), 1);
            Due.is("a first cell", x.kind(0, 0), kind < 8 ? kind : 11);
            Due.is("no second cell", x.kind(0, 1), -13);
        }
    }

    /** The kind of the tape on which the source has a cell of this sort. */
    private static int tapeOf(char cell) {
        if (cell == 'e') return 8;
        return cell <= '7' ? cell - '0' : 8 + "tsr".indexOf(cell);
    }

    /** A bay whose source has a cell of this sort at its place 1. */
    private static PatchBay withCell(char cell) {
        PatchBay x = new PatchBay();
        int kind = tapeOf(cell);
        x.tape(SOURCE, kind, SIZE);
        x.tape(SPARE, 4, 5);
        if (cell == 't' || cell == 's') {
            x.tag(SOURCE, 1, cell == 's');
        } else if (cell == 'r') {
            x.rack(SOURCE, 1, SPARE);
        } else if (cell != 'e') {
            x.stamp(SOURCE, 1, kind, 1);
        }
        return x;
    }

    private static long number(char cell) {
        return cell == 'e' ? 0 : cell == 'r' ? 5 : 1;
    }

    private static int kindOnTape(char cell, int tapeKind) {
        return tapeKind < 8 ? tapeKind : 8 + "tsre".indexOf(cell);
    }

    private static void target(PatchBay x, int to) {
        if (to == TO_NOTHING) {
            x.strip(TARGET);
        } else if (to == TO_PLUG) {
            x.plug(TARGET);
        } else {
            x.tape(TARGET, to, SIZE);
        }
    }

    /** "TO WRITE a CELL to place i of a channel, the first of these: ..". */
    private static int refusal(char cell, int to, int i) {
        if (to == TO_NOTHING) return NULL;
        if (to == TO_PLUG) return KIND;
        if (cell == 'e' && to < 8) return KIND;
        if (i < 0 || i >= SIZE) return INDEX;
        return TAKEN[to].indexOf(cell) < 0 ? KIND : 0;
    }

    private static void writes() {
        int[] places = {0, SIZE - 1, -1, SIZE, Integer.MIN_VALUE, Integer.MAX_VALUE};
        for (char cell : CELLS.toCharArray()) {
            PatchBay x = withCell(cell);
            for (int to = TO_NOTHING; to <= TO_PLUG; to++) {
                target(x, to);
                for (int place : places) {
                    int due = refusal(cell, to, place);
                    String what = "cell " + cell + " to " + to + " at " + place;
                    Due.is(what, x.splice(SOURCE, 1, TARGET, place, 1), due == 0 ? 1 : 0);
                    Due.is(what + ": why", x.why(), due);
                    if (due == 0) isThere(what, x, cell, to, place);
                }
            }
        }
    }

    private static void isThere(String what, PatchBay x, char cell, int to, int place) {
        Due.is(what + ": number", x.number(TARGET, place), number(cell));
        Due.is(what + ": kind", x.kind(TARGET, place), kindOnTape(cell, to));
        Due.is(what + ": the giver keeps it", x.number(SOURCE, 1), number(cell));
        if (cell == 'r') {
            x.unrack(TARGET, place, 3);
            x.stamp(3, 0, 4, place);
            Due.is(what + ": that itself", x.number(SPARE, 0), place);
        }
    }

    private static void wires() {
        for (char cell : CELLS.toCharArray()) {
            for (int to = TO_NOTHING; to <= TO_PLUG; to++) {
                for (int place : new int[] {2, SIZE, -1}) {
                    PatchBay x = withCell(cell);
                    target(x, to);
                    x.head(SOURCE, 1);
                    x.head(TARGET, place);
                    x.cable(0, SOURCE, TARGET);
                    int due = refusal(cell, to, place);
                    String what = "wire: cell " + cell + " to " + to + " at " + place;
                    Due.is(what, x.tick(), due == 0 ? 1 : 0);
                    Due.is(what + ": fault", x.fault(0, 2), due == 0 ? -1 : due);
                    if (due == 0) isThere(what, x, cell, to, place);
                }
            }
        }
    }

    /** Either write of a swap may be refused; then both cells are as they were. */
    private static void swaps() {
        for (char cell : CELLS.toCharArray()) {
            for (int to = 0; to <= 10; to++) {
                PatchBay x = withCell(cell);
                x.tape(TARGET, to, SIZE);
                int own = x.kind(SOURCE, 1);
                char back = to < 8 ? CELLS.charAt(to) : 'e';
                boolean taken = TAKEN[to].indexOf(cell) >= 0 && TAKEN[tapeOf(cell)].indexOf(back) >= 0;
                x.cable(3, SOURCE, TARGET);
                x.head(SOURCE, 1);
                x.head(TARGET, 2);
                String what = "swap: cell " + cell + " with a first one of " + to;
                Due.is(what, x.tick(), taken ? 1 : 0);
                Due.is(what + ": there", x.number(TARGET, 2), taken ? number(cell) : 0);
                Due.is(what + ": here", x.number(SOURCE, 1), taken ? 0 : number(cell));
                Due.is(what + ": refusal", x.fault(0, 2), taken ? -1 : KIND);
                Due.is(what + ": faults", x.count(4), taken ? 0 : 1);
                if (!taken) {
                    Due.is(what + ": kind there", x.kind(TARGET, 2), to < 8 ? to : 11);
                    Due.is(what + ": kind here", x.kind(SOURCE, 1), own);
                }
            }
        }
    }

    private static void dubs() {
        for (char cell : CELLS.toCharArray()) {
            for (int to = 0; to <= 10; to++) {
                PatchBay x = withCell(cell);
                // The other cells of the source are plain ones of its kind, or empty.
                char rest = "tsre".indexOf(cell) < 0 ? cell : 'e';
                boolean taken = TAKEN[to].indexOf(cell) >= 0 && TAKEN[to].indexOf(rest) >= 0;
                String what = "dub: cell " + cell + " to " + to;
                Due.is(what, x.dub(TARGET, SOURCE, to), taken ? SIZE : -12);
                Due.is(what + ": has", x.of(TARGET, 3), taken ? 1 : 0);
                if (taken) isThere(what, x, cell, to, 1);
            }
        }
    }

    /** "TO READ place i of a channel: NULL, KIND (a PLUG), INDEX". */
    private static void reads() {
        int[] places = {0, SIZE - 1, -1, SIZE, Integer.MIN_VALUE, Integer.MAX_VALUE};
        for (int from = TO_NOTHING; from <= TO_PLUG; from++) {
            PatchBay x = new PatchBay();
            target(x, from);
            for (int i : places) {
                int due = from == TO_NOTHING ? NULL : from == TO_PLUG ? KIND : i < 0 || i >= SIZE ? INDEX : 0;
                String what = "read of " + from + " at " + i;
                Due.is(what, x.kind(TARGET, i), due != 0 ? -10 - due : from < 8 ? from : 11);
                Due.is(what + ": why", x.why(), due);
                x.number(TARGET, i);
                Due.is(what + ": number's why", x.why(), due);
            }
        }
    }

    /** "Several channels may have the same one": a tape is changed for all, another one for one. */
    private static void sharedTapes() {
        PatchBay x = new PatchBay();
        x.tape(0, 4, 2);
        for (int channel = 1; channel < 16; channel++) {
            x.share(channel, channel - 1);
        }
        x.stamp(15, 1, 4, 9);
        for (int channel = 0; channel < 16; channel++) {
            Due.is("the same tape at " + channel, x.number(channel, 1), 9);
        }
        x.tape(7, 5, 1);
        x.strip(8);
        x.plug(9);
        x.dub(10, 0, 4);
        x.stamp(0, 1, 4, 8);
        Due.is("another tape", x.cells(7), 1);
        Due.is("a copy is none of it", x.number(10, 1), 9);
        Due.is("the others have it still", x.number(15, 1), 8);
    }

    /** "Each channel, whatever it has, has a HEAD, a STEP, and may be a LOOP". */
    private static void channelsKeepTheirHeads() {
        PatchBay x = new PatchBay();
        x.head(1, 77);
        x.step(1, -2);
        x.loop(1, true);
        x.tape(0, 10, 1);
        x.tape(2, 4, 1);
        x.rack(0, 0, 2);
        for (int act = 0; act < 6; act++) {
            switch (act) {
                case 0: x.tape(1, 4, 3); break;
                case 1: x.plug(1); break;
                case 2: x.strip(1); break;
                case 3: x.share(1, 0); break;
                case 4: x.unrack(0, 0, 1); break;
                default: x.dub(1, 0, 10); break;
            }
            Due.is("head after act " + act, x.of(1, 0), 77);
            Due.is("step after act " + act, x.of(1, 1), -2);
            Due.is("loop after act " + act, x.of(1, 2), 1);
        }
        Due.is("its head is not shared", x.of(0, 0), 0);
    }

    /** "Floats and doubles: theirs as a long (2^63 - 1, if it is 2^63)". */
    private static void whole() {
        PatchBay x = new PatchBay();
        x.tape(5, 5, 1);
        x.tape(6, 6, 1);
        x.tape(7, 7, 1);
        x.stamp(5, 0, 5, Long.MAX_VALUE);
        Due.is("2^63 - 1 to floats", x.splice(5, 0, 6, 0, 1), 1);
        Due.is("2^63 as a float", x.number(6, 0), Long.MAX_VALUE);
        Due.is("2^63 to doubles", x.splice(6, 0, 7, 0, 1), 1);
        Due.is("2^63 as a double", x.number(7, 0), Long.MAX_VALUE);
        Due.is("they match", x.match(5, 7), -2);
        x.stamp(6, 0, 6, Long.MAX_VALUE - (1L << 38) + 1);
        Due.is("halfway to 2^63: the even one is 2^63", x.number(6, 0), Long.MAX_VALUE);
        x.stamp(6, 0, 6, Long.MAX_VALUE - (1L << 38));
        Due.is("just below halfway", x.number(6, 0), Long.MAX_VALUE - (1L << 39) + 1);
        x.stamp(7, 0, 7, Long.MAX_VALUE - 511);
        Due.is("halfway to 2^63: the even one is 2^63", x.number(7, 0), Long.MAX_VALUE);
        x.stamp(7, 0, 7, Long.MAX_VALUE - 512);
        Due.is("just below halfway", x.number(7, 0), Long.MAX_VALUE - 1023);
        for (int kind = 5; kind <= 7; kind++) {
            x.stamp(kind, 0, kind, Long.MIN_VALUE);
            Due.is("-2^63 of kind " + kind, x.number(kind, 0), Long.MIN_VALUE);
        }
    }

    /** "The nearest one (of two as near the one with the even last bit)". */
    private static void halfway() {
        int[][] kinds = {{6, 24}, {7, 53}};
        for (int[] row : kinds) {
            int kind = row[0];
            PatchBay x = new PatchBay();
            x.tape(kind, kind, 1);
            for (int high = row[1]; high < 63; high += 3) {
                long base = 1L << high;
                long unit = 1L << high - row[1] + 1;
                long half = unit / 2;
                rounds(x, kind, base + half, base);
                rounds(x, kind, base + unit + half, base + 2 * unit);
                rounds(x, kind, base + half + 1, base + unit);
                rounds(x, kind, base + unit + half - 1, base + unit);
                if (high < 62) rounds(x, kind, 2 * base - half, 2 * base);
            }
        }
    }

    private static void rounds(PatchBay x, int kind, long number, long due) {
        x.stamp(kind, 0, kind, number);
        Due.is(number + " as kind " + kind, x.number(kind, 0), due);
        x.stamp(kind, 0, kind, -number);
        Due.is(-number + " as kind " + kind, x.number(kind, 0), -due);
        x.stamp(kind, 0, 5, number);
        Due.is(number + " of a long as kind " + kind, x.number(kind, 0), due);
    }

    /** The least and the most of each kind, and the ones beyond them, that go round. */
    private static void widest() {
        PatchBay x = new PatchBay();
        long[][] ends = {{-128, 127}, {-32768, 32767}, {0, 65535}, {Integer.MIN_VALUE, Integer.MAX_VALUE}};
        for (int kind = 1; kind <= 4; kind++) {
            x.tape(kind, kind, 1);
            long least = ends[kind - 1][0];
            long most = ends[kind - 1][1];
            long[][] rows = {{least, least}, {most, most}, {least - 1, most}, {most + 1, least}};
            for (long[] row : rows) {
                x.stamp(kind, 0, kind, row[0]);
                Due.is(row[0] + " as kind " + kind, x.number(kind, 0), row[1]);
                Due.is(row[0] + " asked for as a double", x.probe(kind, 0, 7), row[1]);
            }
        }
    }

    /** A number as the machine casts it to a plain kind, and that to a long. */
    private static long cast(int kind, long number) {
        switch (kind) {
            case 0: return number != 0 ? 1 : 0;
            case 1: return (byte) number;
            case 2: return (short) number;
            case 3: return (char) number;
            case 4: return (int) number;
            case 5: return number;
            case 6: return (long) (float) number;
            default: return (long) (double) number;
        }
    }

    /** 9: "a number is made a CELL of a PLAIN KIND as; that is written"; 10: "what it is then". */
    private static void madeThenWritten() {
        long[] numbers = {0, -1, 300, 65535 + 200, 1L << 40, 16777217, (1L << 53) + 1, (1L << 54) + (1L << 30) + 1,
            Long.MAX_VALUE, Long.MIN_VALUE, Long.MIN_VALUE + 1, -(1L << 31) - 1};
        for (int to = 0; to < 8; to++) {
            for (int as = 0; as < 8; as++) {
                PatchBay x = new PatchBay();
                x.tape(0, to, 1);
                x.tape(1, as, 1);
                boolean taken = TAKEN[to].indexOf('0' + as) >= 0;
                for (long number : numbers) {
                    String what = number + " as " + as + " to " + to;
                    long made = cast(as, number);
                    Due.is(what, x.stamp(0, 0, as, number), taken ? 1 : -12);
                    Due.is(what + ": number", x.number(0, 0), taken ? cast(to, made) : 0);
                    x.stamp(1, 0, as, number);
                    Due.is(what + ": asked for", x.probe(1, 0, to), taken ? cast(to, made) : 0);
                    Due.is(what + ": why", x.why(), taken ? 0 : KIND);
                    Due.is(what + ": asking leaves it", x.number(1, 0), made);
                }
            }
        }
    }
}
