/** Promises 1 to 13: a new object, and the calls on channels. */
public final class ChannelsTest {
    private static final int[] NO_CHANNEL = {-1, 16, Integer.MIN_VALUE, Integer.MAX_VALUE};

    public static void main(String[] args) {
        newObject();
        tape();
        newCells();
        plugAndStrip();
        share();
        headStepLoop();
        stampMakesCells();
        stampTakes();
        stampRefusals();
        nearest();
        probe();
        tag();
        tagsFull();
        rack();
        rackRefusals();
        unrack();
        Due.close();
    }

    private static void newObject() {
        PatchBay x = new PatchBay();
        for (int c = 0; c < 16; c++) {
            Due.is("1 head", x.of(c, 0), 0);
            Due.is("1 step", x.of(c, 1), 1);
            Due.is("1 loop", x.of(c, 2), 0);
            Due.is("1 nothing", x.of(c, 3), 0);
        }
        for (int what = 0; what <= 7; what++) {
            Due.is("1 count " + what, x.count(what), 0);
            Due.is("1 no cable", x.told(0, what), -1);
        }
        Due.is("1 no fault", x.fault(0, 0), -1);
        Due.is("1 why", x.why(), 0);
        Due.is("the face: OUTSIDE", PatchBay.OUTSIDE, -1);
        Due.is("the face: FULL", PatchBay.FULL, -2);
    }

    private static void tape() {
        PatchBay x = new PatchBay();
        for (int kind = 0; kind <= 10; kind++) {
            Due.is("2 cells", x.tape(kind, kind, kind), kind);
            Due.is("2 has", x.of(kind, 3), 1);
            Due.is("2 cells()", x.cells(kind), kind);
        }
        Due.is("2 none", x.tape(15, 4, 0), 0);
        Due.is("2 most", x.tape(15, 4, 32), 32);
        x.head(15, 5);
        x.step(15, 2);
        x.loop(15, true);
        Due.is("2 another", x.tape(15, 5, 3), 3);
        Due.is("2 the head stays", x.of(15, 0), 5);
        Due.is("2 the step stays", x.of(15, 1), 2);
        Due.is("2 the loop stays", x.of(15, 2), 1);
        Due.is("2 fewer than none", x.tape(15, 4, -1), -15);
        Due.is("2 why", x.why(), 5);
        Due.is("2 least", x.tape(15, 4, Integer.MIN_VALUE), -15);
        Due.is("2 counted", x.count(7), 2);
        Due.is("2 unchanged", x.cells(15), 3);
        x.tape(15, 4, -1);
        Due.is("2 above", x.tape(15, 4, 33), -1);
        Due.is("2 above by far", x.tape(15, 4, Integer.MAX_VALUE), -1);
        Due.is("2 kind -1", x.tape(15, -1, -1), -1);
        Due.is("2 kind 11", x.tape(15, 11, -1), -1);
        for (int c : NO_CHANNEL) {
            Due.is("2 channel " + c, x.tape(c, 4, -1), -1);
        }
        Due.is("2 OUTSIDE leaves why", x.why(), 5);
        Due.is("2 OUTSIDE is not counted", x.count(7), 3);
        x.tape(15, 4, 1);
        Due.is("2 why is none", x.why(), 0);
    }

    private static void newCells() {
        PatchBay x = new PatchBay();
        for (int kind = 0; kind <= 10; kind++) {
            x.tape(kind, kind, 2);
            Due.is("2 number of kind " + kind, x.number(kind, 1), 0);
            Due.is("2 kind of kind " + kind, x.kind(kind, 1), kind < 8 ? kind : 11);
        }
    }

    private static void plugAndStrip() {
        PatchBay x = new PatchBay();
        Due.is("3 had nothing", x.plug(3), 0);
        Due.is("3 had a plug", x.plug(3), 2);
        Due.is("3 has a plug", x.of(3, 3), 2);
        Due.is("4 had a plug", x.strip(3), 2);
        Due.is("4 had nothing", x.strip(3), 0);
        Due.is("4 has nothing", x.of(3, 3), 0);
        x.tape(3, 10, 1);
        Due.is("3 had a tape", x.plug(3), 1);
        Due.is("3 a plug is no tape", x.cells(3), -12);
        x.tape(3, 4, 1);
        Due.is("4 had a tape", x.strip(3), 1);
        Due.is("4 no tape", x.cells(3), -11);
        for (int c : NO_CHANNEL) {
            Due.is("3 channel " + c, x.plug(c), -1);
            Due.is("4 channel " + c, x.strip(c), -1);
        }
        Due.is("3 and 4 leave why", x.why(), 1);
    }

    private static void share() {
        PatchBay x = new PatchBay();
        x.tape(0, 5, 2);
        Due.is("5 a tape", x.share(1, 0), 1);
        x.stamp(1, 1, 5, 77);
        Due.is("5 the same tape", x.number(0, 1), 77);
        x.tape(0, 5, 1);
        Due.is("5 a new tape of one leaves the other", x.cells(1), 2);
        x.plug(2);
        Due.is("5 a plug", x.share(1, 2), 2);
        Due.is("5 has it", x.of(1, 3), 2);
        Due.is("5 the giver keeps it", x.of(2, 3), 2);
        Due.is("5 nothing", x.share(1, 9), 0);
        Due.is("5 has nothing", x.of(1, 3), 0);
        Due.is("5 its own", x.share(0, 0), 1);
        Due.is("5 its own stays", x.cells(0), 1);
        for (int c : NO_CHANNEL) {
            Due.is("5 channel " + c, x.share(c, 0), -1);
            Due.is("5 other " + c, x.share(0, c), -1);
        }
        Due.is("5 unchanged", x.of(0, 3), 1);
    }

    private static void headStepLoop() {
        PatchBay x = new PatchBay();
        Due.is("6", x.head(15, Integer.MAX_VALUE), 1);
        Due.is("6 head", x.of(15, 0), Integer.MAX_VALUE);
        Due.is("6 least", x.head(15, Integer.MIN_VALUE), 1);
        Due.is("6 head", x.of(15, 0), Integer.MIN_VALUE);
        Due.is("7 first", x.step(15, -3), 4);
        Due.is("7 before", x.step(15, 3), 0);
        Due.is("7 before", x.step(15, 0), 6);
        Due.is("7 below", x.step(15, -4), -1);
        Due.is("7 above", x.step(15, 4), -1);
        Due.is("7 step", x.of(15, 1), 0);
        Due.is("8 was not", x.loop(15, true), 0);
        Due.is("8 was", x.loop(15, true), 1);
        Due.is("8 is", x.of(15, 2), 1);
        Due.is("8 was", x.loop(15, false), 1);
        Due.is("8 was not", x.loop(15, false), 0);
        for (int c : NO_CHANNEL) {
            Due.is("6 channel " + c, x.head(c, 0), -1);
            Due.is("7 channel " + c, x.step(c, 0), -1);
            Due.is("8 channel " + c, x.loop(c, true), -1);
        }
        Due.is("6 another channel's stays", x.of(14, 0), 0);
    }

    private static void stampMakesCells() {
        long[][] rows = {
            {0, 0, 0}, {0, -5, 1}, {0, 1L << 40, 1},
            {1, 127, 127}, {1, 128, -128}, {1, -129, 127}, {1, 256, 0},
            {2, 32768, -32768}, {2, 65535, -1}, {2, -32769, 32767},
            {3, 65535, 65535}, {3, -1, 65535}, {3, 65536, 0},
            {4, 1L << 31, Integer.MIN_VALUE}, {4, 1L << 32, 0}, {4, -1, -1},
            {5, Long.MIN_VALUE, Long.MIN_VALUE}, {5, Long.MAX_VALUE, Long.MAX_VALUE},
            {6, 16777217, 16777216}, {6, 16777219, 16777220}, {6, -16777217, -16777216},
            {7, 16777217, 16777217}, {7, 9007199254740993L, 9007199254740992L},
            {7, 9007199254740995L, 9007199254740996L},
        };
        PatchBay x = new PatchBay();
        for (long[] row : rows) {
            int kind = (int) row[0];
            x.tape(0, kind, 3);
            Due.is("9 stamp", x.stamp(0, 2, kind, row[1]), 1);
            Due.is("9 " + row[1] + " as " + kind, x.number(0, 2), row[2]);
            Due.is("9 kind", x.kind(0, 2), kind);
            Due.is("9 another cell stays", x.number(0, 1), 0);
        }
        Due.is("9 why", x.why(), 0);
    }

    private static void stampTakes() {
        // A row for each kind of tape: which kinds of cells it takes.
        String[] taken = {"0", "1", "12", "3", "1234", "12345", "123456", "1234567"};
        PatchBay x = new PatchBay();
        for (int kind = 0; kind <= 7; kind++) {
            x.tape(kind, kind, 1);
            for (int as = 0; as <= 7; as++) {
                boolean takes = taken[kind].indexOf('0' + as) >= 0;
                long before = x.number(kind, 0);
                Due.is("9 " + as + " to " + kind, x.stamp(kind, 0, as, 7 + as), takes ? 1 : -12);
                Due.is("9 why", x.why(), takes ? 0 : 2);
                Due.is("9 what is there", x.number(kind, 0), !takes ? before : as == 0 ? 1 : 7 + as);
                Due.is("9 its kind", x.kind(kind, 0), kind);
            }
        }
    }

    private static void stampRefusals() {
        PatchBay x = new PatchBay();
        x.plug(1);
        for (int kind = 8; kind <= 10; kind++) {
            x.tape(kind, kind, 2);
            Due.is("9 no plain tape", x.stamp(kind, 0, 4, 1), -12);
            Due.is("9 no plain tape before the index", x.stamp(kind, 2, 4, 1), -12);
        }
        x.tape(2, 1, 2);
        Due.is("9 nothing", x.stamp(0, 0, 4, 1), -11);
        Due.is("9 why", x.why(), 1);
        Due.is("9 a plug", x.stamp(1, -1, 4, 1), -12);
        Due.is("9 below", x.stamp(2, -1, 1, 1), -13);
        Due.is("9 above", x.stamp(2, 2, 1, 1), -13);
        Due.is("9 the index before what is not taken", x.stamp(2, 2, 4, 1), -13);
        Due.is("9 not taken", x.stamp(2, 1, 4, 1), -12);
        x.stamp(2, Integer.MIN_VALUE, 1, 1);
        Due.is("9 least", x.why(), 3);
        Due.is("9 as -1", x.stamp(0, 0, -1, 1), -1);
        Due.is("9 as 8", x.stamp(0, 0, 8, 1), -1);
        for (int c : NO_CHANNEL) {
            Due.is("9 channel " + c, x.stamp(c, 0, 4, 1), -1);
        }
        Due.is("9 OUTSIDE leaves why", x.why(), 3);
        Due.is("9 counted: NULL", x.count(3), 1);
        Due.is("9 counted: KIND", x.count(4), 8);
        Due.is("9 counted: INDEX", x.count(5), 4);
    }

    private static void nearest() {
        PatchBay x = new PatchBay();
        x.tape(0, 5, 1);
        x.tape(6, 6, 1);
        x.tape(7, 7, 1);
        long[][] rows = {
            // a long; the nearest float; the nearest double
            {16777217, 16777216, 16777217},
            {16777219, 16777220, 16777219},
            {-16777219, -16777220, -16777219},
            {9007199254740993L, 9007199254740992L, 9007199254740992L},
            {9007199254740995L, 9007199254740992L, 9007199254740996L},
            // halfway for a double, and just above halfway for a float
            {(1L << 54) + (1L << 30) + 1, (1L << 54) + (1L << 31), (1L << 54) + (1L << 30)},
            {Long.MAX_VALUE, Long.MAX_VALUE, Long.MAX_VALUE},
            {Long.MAX_VALUE - 512, Long.MAX_VALUE, Long.MAX_VALUE - 1023},
            // halfway between the last but one float below 2^63 (even) and the last one
            {Long.MAX_VALUE - 3 * (1L << 38) + 1, Long.MAX_VALUE - (1L << 40) + 1, Long.MAX_VALUE - 3 * (1L << 38) + 1},
            {Long.MIN_VALUE, Long.MIN_VALUE, Long.MIN_VALUE},
        };
        for (long[] row : rows) {
            x.stamp(0, 0, 5, row[0]);
            Due.is("9 float written", x.stamp(6, 0, 5, row[0]), 1);
            Due.is("9 double written", x.stamp(7, 0, 5, row[0]), 1);
            Due.is("9 float of " + row[0], x.number(6, 0), row[1]);
            Due.is("9 double of " + row[0], x.number(7, 0), row[2]);
            Due.is("10 as float", x.probe(0, 0, 6), row[1]);
            Due.is("10 as double", x.probe(0, 0, 7), row[2]);
            Due.is("10 a float as double", x.probe(6, 0, 7), row[1]);
        }
    }

    private static void probe() {
        String[] taken = {"0", "1", "12", "3", "1234", "12345", "123456", "1234567"};
        PatchBay x = new PatchBay();
        for (int kind = 0; kind <= 7; kind++) {
            x.tape(kind, kind, 2);
            x.stamp(kind, 1, kind, 65);
            for (int as = 0; as <= 7; as++) {
                boolean takes = taken[as].indexOf('0' + kind) >= 0;
                Due.is("10 " + kind + " as " + as, x.probe(kind, 1, as), !takes ? 0 : kind == 0 ? 1 : 65);
                Due.is("10 why", x.why(), takes ? 0 : 2);
            }
        }
        x.plug(9);
        x.tape(10, 8, 1);
        int[][] refused = {{8, 0, 4, 1}, {9, 9, 4, 2}, {10, 0, 4, 2}, {10, 1, 4, 2},
            {5, 2, 5, 3}, {5, -1, 5, 3}, {5, 2, 4, 3}, {5, 1, 4, 2}};
        for (int[] row : refused) {
            x.why();
            Due.is("10 refused", x.probe(row[0], row[1], row[2]), 0);
            Due.is("10 why", x.why(), row[3]);
        }
        x.probe(8, 0, 4);
        Due.is("10 as -1", x.probe(5, 1, -1), 0);
        Due.is("10 as 8", x.probe(5, 1, 8), 0);
        for (int c : NO_CHANNEL) {
            Due.is("10 channel " + c, x.probe(c, 1, 5), 0);
        }
        Due.is("10 OUTSIDE leaves why", x.why(), 1);
        x.stamp(5, 1, 5, -1);
        Due.is("10 below 0", x.probe(5, 1, 5), -1);
        Due.is("10 why is none", x.why(), 0);
    }

    private static void tag() {
        PatchBay x = new PatchBay();
        x.tape(0, 8, 2);
        x.tape(1, 9, 2);
        x.tape(2, 10, 1);
        x.tape(3, 4, 1);
        x.plug(4);
        Due.is("11 a tag", x.tag(0, 0, false), 1);
        Due.is("11 a seal", x.tag(0, 1, true), 2);
        Due.is("11 kind of a tag", x.kind(0, 0), 8);
        Due.is("11 kind of a seal", x.kind(0, 1), 9);
        Due.is("11 a seal to seals", x.tag(1, 1, true), 3);
        Due.is("11 its number", x.number(1, 1), 3);
        Due.is("11 a tag to seals", x.tag(1, 1, false), -12);
        Due.is("11 what was there stays", x.number(1, 1), 3);
        Due.is("11 made all the same", x.tag(0, 0, false), 5);
        Due.is("11 to a rack", x.tag(2, 0, true), -12);
        Due.is("11 to ints", x.tag(3, 0, true), -12);
        Due.is("11 the index first", x.tag(3, 1, true), -13);
        Due.is("11 the index first", x.tag(1, 2, false), -13);
        Due.is("11 below", x.tag(0, -1, false), -13);
        Due.is("11 nothing", x.tag(9, 0, false), -11);
        Due.is("11 a plug", x.tag(4, 7, false), -12);
        Due.is("11 why", x.why(), 2);
        for (int c : NO_CHANNEL) {
            Due.is("11 channel " + c, x.tag(c, 0, false), -1);
        }
        Due.is("11 OUTSIDE makes none", x.tag(0, 0, false), 13);
        Due.is("11 why is none", x.why(), 0);
    }

    private static void tagsFull() {
        PatchBay x = new PatchBay();
        x.tape(0, 8, 1);
        for (int i = 1; i <= 199; i++) {
            Due.is("11 tag " + i, x.tag(0, 0, i % 2 == 0), i);
        }
        Due.is("11 the last one, refused", x.tag(0, 1, false), -13);
        Due.is("11 full", x.tag(0, 0, false), -2);
        Due.is("11 full before a refusal", x.tag(9, 0, false), -2);
        Due.is("11 OUTSIDE before full", x.tag(16, 0, false), -1);
        Due.is("11 FULL leaves why", x.why(), 3);
        Due.is("11 unchanged", x.number(0, 0), 199);
    }

    private static void rack() {
        PatchBay x = new PatchBay();
        x.tape(0, 10, 2);
        x.tape(1, 4, 3);
        Due.is("12 a tape", x.rack(0, 1, 1), 1);
        Due.is("12 kind", x.kind(0, 1), 10);
        Due.is("12 number", x.number(0, 1), 3);
        x.strip(1);
        Due.is("12 it is there still", x.number(0, 1), 3);
        Due.is("12 nothing is an empty one", x.rack(0, 1, 1), 1);
        Due.is("12 kind", x.kind(0, 1), 11);
        Due.is("12 number", x.number(0, 1), 0);
        x.tape(1, 4, 0);
        Due.is("12 a tape of no cells", x.rack(0, 0, 1), 1);
        Due.is("12 kind", x.kind(0, 0), 10);
        Due.is("12 number", x.number(0, 0), 0);
        x.tape(2, 8, 1);
        x.tag(2, 0, false);
        Due.is("12 an empty one to tags", x.rack(2, 0, 9), 1);
        Due.is("12 kind", x.kind(2, 0), 11);
        x.tape(3, 9, 1);
        Due.is("12 an empty one to seals", x.rack(3, 0, 9), 1);
        Due.is("12 why", x.why(), 0);
    }

    private static void rackRefusals() {
        PatchBay x = new PatchBay();
        x.tape(0, 10, 1);
        x.tape(1, 4, 2);
        x.plug(2);
        x.rack(0, 0, 1);
        for (int kind = 0; kind <= 10; kind++) {
            x.tape(3, kind, 1);
            Due.is("12 a tape of kind " + kind, x.rack(0, 0, 3), kind == 4 ? 1 : -12);
        }
        Due.is("12 a plug", x.rack(0, 0, 2), -12);
        Due.is("12 what was there stays", x.number(0, 0), 1);
        Due.is("12 the index before what is not taken", x.rack(0, 1, 2), -13);
        Due.is("12 the index before what is not taken", x.rack(0, -1, 0), -13);
        Due.is("12 a rack to itself", x.rack(0, 0, 0), -12);
        Due.is("12 to nothing", x.rack(9, 0, 2), -11);
        Due.is("12 to a plug", x.rack(2, 9, 1), -12);
        Due.is("12 why", x.why(), 2);
        Due.is("12 a tape to ints", x.rack(1, 0, 1), -12);
        Due.is("12 a tape to ints, the index first", x.rack(1, 2, 1), -13);
        Due.is("12 a plug to ints, the index first", x.rack(1, 2, 2), -13);
        Due.is("12 an empty one to ints", x.rack(1, 0, 9), -12);
        Due.is("12 an empty one to ints before the index", x.rack(1, 2, 9), -12);
        x.tape(4, 8, 1);
        Due.is("12 a tape to tags", x.rack(4, 0, 1), -12);
        Due.is("12 an empty one to tags, the index", x.rack(4, 1, 9), -13);
        for (int c : NO_CHANNEL) {
            Due.is("12 channel " + c, x.rack(c, 0, 1), -1);
            Due.is("12 other " + c, x.rack(0, 0, c), -1);
        }
        Due.is("12 OUTSIDE leaves why", x.why(), 3);
    }

    private static void unrack() {
        PatchBay x = new PatchBay();
        x.tape(0, 10, 2);
        x.tape(1, 4, 3);
        x.rack(0, 0, 1);
        Due.is("13 a tape", x.unrack(0, 0, 2), 3);
        x.stamp(2, 2, 4, 9);
        Due.is("13 that itself", x.number(1, 2), 9);
        x.plug(3);
        Due.is("13 an empty one", x.unrack(0, 1, 3), 0);
        Due.is("13 has nothing", x.of(3, 3), 0);
        x.tape(4, 8, 2);
        x.tape(5, 9, 1);
        x.tag(4, 0, false);
        Due.is("13 a tag", x.unrack(4, 0, 2), -12);
        Due.is("13 unchanged", x.cells(2), 3);
        Due.is("13 an empty one of tags", x.unrack(4, 1, 2), 0);
        Due.is("13 has nothing", x.of(2, 3), 0);
        Due.is("13 an empty one of seals", x.unrack(5, 0, 2), 0);
        Due.is("13 an int", x.unrack(1, 0, 2), -12);
        Due.is("13 an int, the index first", x.unrack(1, 3, 2), -13);
        Due.is("13 no such cell", x.unrack(0, 2, 2), -13);
        Due.is("13 no such cell", x.unrack(0, -1, 2), -13);
        Due.is("13 nothing", x.unrack(9, 0, 2), -11);
        x.plug(6);
        Due.is("13 a plug", x.unrack(6, 9, 2), -12);
        Due.is("13 why", x.why(), 2);
        for (int c : NO_CHANNEL) {
            Due.is("13 channel " + c, x.unrack(c, 0, 2), -1);
            Due.is("13 other " + c, x.unrack(0, 0, c), -1);
        }
        Due.is("13 OUTSIDE leaves why", x.why(), 2);
        Due.is("13 its own", x.unrack(0, 0, 0), 3);
        Due.is("13 its own", x.kind(0, 0), 4);
        Due.is("13 why is none", x.why(), 0);
    }
}
