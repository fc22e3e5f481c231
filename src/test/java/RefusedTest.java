import java.util.List;

/** A refused call tells its refusal, sets why(), is counted, and changes nothing else. */
public final class RefusedTest {
    private static final int NULL = 1, KIND = 2, INDEX = 3, SIZE = 5;
    private static final int LEAST = Integer.MIN_VALUE, MOST = Integer.MAX_VALUE;
    private static final int INTS = Laid.INTS, BYTES = Laid.BYTES, TAGS = Laid.TAGS, SEALS = Laid.SEALS;
    private static final int RACK = Laid.RACK, PLUG = Laid.PLUG, NOTHING = Laid.NOTHING;

    private static List<Long> before;

    public static void main(String[] args) {
        before = Laid.view(Laid.bay());
        tape();
        stamp();
        probe();
        tag();
        rack();
        rackOfMisfits();
        unrack();
        splice();
        dub();
        sumAndMatch();
        told();
        Due.close();
    }

    /** The call on a bay that was laid out: how far its answer lies below base tells the refusal. */
    private static void refused(int refusal, int base, String call, int... a) {
        refused(refusal, base == 0 ? 0 : base - refusal, 0, call, a);
    }

    private static void refused(int refusal, long due, int tagsMade, String call, int... a) {
        Bay x = Laid.bay();
        String what = call + java.util.Arrays.toString(a);
        Due.is(what, x.named(call, 0, a), due);
        List<Long> seen = Laid.view(x);
        Due.is(what + ": why", seen.get(0), refusal);
        int counted = Laid.COUNTS + 2 + refusal;
        Due.is(what + ": counted", seen.get(counted), before.get(counted) + 1);
        seen.set(0, before.get(0));
        seen.set(counted, before.get(counted));
        int last = seen.size() - 1;
        Due.is(what + ": tags made", seen.get(last), before.get(last) + tagsMade);
        seen.set(last, before.get(last));
        Due.is(what + ": nothing else is changed", seen.equals(before) ? 1 : 0, 1);
    }

    private static void tape() {
        for (int channel : new int[] {INTS, PLUG, NOTHING}) {
            refused(SIZE, -10, "tape", channel, 4, -1);
            refused(SIZE, -10, "tape", channel, 10, LEAST);
        }
    }

    private static void stamp() {
        refused(NULL, -10, "stamp", NOTHING, 0, 4);
        refused(NULL, -10, "stamp", NOTHING, -1, 4);
        refused(KIND, -10, "stamp", PLUG, 0, 4);
        refused(KIND, -10, "stamp", PLUG, -1, 4);
        for (int channel : new int[] {TAGS, SEALS, RACK}) {
            refused(KIND, -10, "stamp", channel, 0, 4);
            refused(KIND, -10, "stamp", channel, 9, 4);
        }
        for (int i : new int[] {-1, 3, LEAST, MOST}) {
            refused(INDEX, -10, "stamp", INTS, i, 4);
            refused(INDEX, -10, "stamp", INTS, i, 5);
        }
        refused(INDEX, -10, "stamp", Laid.NO_CELLS, 0, 4);
        refused(KIND, -10, "stamp", INTS, 0, 5);
        refused(KIND, -10, "stamp", BYTES, 1, 2);
    }

    private static void probe() {
        refused(NULL, 0, "probe", NOTHING, 0, 4);
        refused(NULL, 0, "probe", NOTHING, -1, 4);
        refused(KIND, 0, "probe", PLUG, 0, 4);
        refused(KIND, 0, "probe", PLUG, -1, 4);
        for (int channel : new int[] {TAGS, SEALS, RACK}) {
            refused(KIND, 0, "probe", channel, 0, 4);
            refused(KIND, 0, "probe", channel, 9, 4);
        }
        for (int i : new int[] {-1, 3, LEAST, MOST}) {
            refused(INDEX, 0, "probe", INTS, i, 4);
            refused(INDEX, 0, "probe", INTS, i, 1);
        }
        refused(INDEX, 0, "probe", Laid.NO_CELLS, 0, 4);
        refused(KIND, 0, "probe", INTS, 0, 2);
        refused(KIND, 0, "probe", BYTES, 1, 3);
    }

    private static void tag() {
        int[][] rows = {
            {NULL, NOTHING, 0}, {NULL, NOTHING, -1}, {KIND, PLUG, 0}, {KIND, PLUG, -1},
            {INDEX, TAGS, -1}, {INDEX, TAGS, 3}, {INDEX, TAGS, LEAST}, {INDEX, TAGS, MOST},
            {INDEX, SEALS, 2}, {KIND, SEALS, 0}, {KIND, RACK, 0}, {INDEX, RACK, 2},
            {KIND, INTS, 0}, {INDEX, INTS, 3}, {INDEX, Laid.NO_CELLS, 0},
        };
        for (int[] row : rows) {
            // It is made all the same.
            refused(row[0], -10 - row[0], 1, "tag", row[1], row[2]);
        }
    }

    private static void rack() {
        refused(NULL, -10, "rack", NOTHING, 0, INTS);
        refused(NULL, -10, "rack", NOTHING, 0, PLUG);
        refused(NULL, -10, "rack", NOTHING, 0, NOTHING);
        refused(KIND, -10, "rack", PLUG, 0, INTS);
        refused(KIND, -10, "rack", PLUG, -1, NOTHING);
        for (int i : new int[] {-1, 2, LEAST, MOST}) {
            refused(INDEX, -10, "rack", RACK, i, INTS);
            refused(INDEX, -10, "rack", RACK, i, NOTHING);
            refused(INDEX, -10, "rack", SEALS, i, NOTHING);
            // An empty cell to a plain tape: before the index is looked at.
            refused(KIND, -10, "rack", BYTES, i, NOTHING);
            refused(INDEX, -10, "rack", BYTES, i, INTS);
        }
        refused(KIND, -10, "rack", INTS, 0, NOTHING);
        refused(KIND, -10, "rack", INTS, 0, INTS);
        refused(KIND, -10, "rack", TAGS, 0, INTS);
        refused(KIND, -10, "rack", SEALS, 0, INTS);
    }

    /** A plug, and a tape of another kind than ints, are refused by tapes of each kind. */
    private static void rackOfMisfits() {
        for (int misfit : new int[] {PLUG, BYTES, TAGS, SEALS, RACK, Laid.DOUBLES}) {
            refused(KIND, -10, "rack", RACK, 0, misfit);
            refused(INDEX, -10, "rack", RACK, 2, misfit);
            refused(INDEX, -10, "rack", RACK, -1, misfit);
        }
        for (int kind = 0; kind <= 10; kind++) {
            for (int misfit : new int[] {PLUG, BYTES, RACK}) {
                Bay x = Laid.bay();
                x.named("tape", 0, 15, kind, 1);
                String what = "a misfit from " + misfit + " to a tape of kind " + kind;
                Due.is(what, x.named("rack", 0, 15, 0, misfit), -12);
                Due.is(what + ": as it was", x.named("kind", 0, 15, 0), kind < 8 ? kind : 11);
                Due.is(what + ": the index", x.named("rack", 0, 15, 1, misfit), -13);
            }
        }
    }

    private static void unrack() {
        refused(NULL, -10, "unrack", NOTHING, 0, BYTES);
        refused(KIND, -10, "unrack", PLUG, 9, BYTES);
        for (int i : new int[] {-1, 2, LEAST, MOST}) {
            refused(INDEX, -10, "unrack", RACK, i, BYTES);
            refused(INDEX, -10, "unrack", SEALS, i, BYTES);
        }
        refused(INDEX, -10, "unrack", INTS, 3, BYTES);
        refused(KIND, -10, "unrack", INTS, 0, BYTES);
        refused(KIND, -10, "unrack", TAGS, 0, BYTES);
        refused(KIND, -10, "unrack", SEALS, 0, BYTES);
    }

    private static void splice() {
        int[][] rows = {
            {NULL, NOTHING, 0, BYTES, 0}, {NULL, NOTHING, -1, PLUG, 0}, {KIND, PLUG, 0, NOTHING, 0},
            {NULL, INTS, 0, NOTHING, 0}, {KIND, INTS, 0, PLUG, 0}, {INDEX, INTS, -1, NOTHING, 0},
            {INDEX, INTS, 3, INTS, 0}, {INDEX, INTS, LEAST, INTS, 0}, {INDEX, INTS, MOST, INTS, 0},
            {INDEX, INTS, 0, INTS, -1}, {INDEX, INTS, 0, INTS, 3}, {INDEX, INTS, 0, INTS, MOST},
            {KIND, INTS, 0, BYTES, 0}, {INDEX, INTS, 0, BYTES, 2}, {KIND, TAGS, 2, INTS, 9},
            {INDEX, Laid.NO_CELLS, 0, INTS, 0},
        };
        for (int[] row : rows) {
            // None was written, so it answers 0.
            refused(row[0], 0, "splice", row[1], row[2], row[3], row[4], 2);
        }
    }

    private static void dub() {
        refused(NULL, -10, "dub", INTS, NOTHING, 4);
        refused(NULL, -10, "dub", NOTHING, NOTHING, 4);
        refused(KIND, -10, "dub", INTS, PLUG, 4);
        refused(KIND, -10, "dub", NOTHING, INTS, 3);
        refused(KIND, -10, "dub", BYTES, INTS, 1);
        refused(KIND, -10, "dub", INTS, INTS, 10);
        refused(KIND, -10, "dub", BYTES, SEALS, 5);
        // The last cell alone is not taken.
        refused(KIND, -10, "dub", BYTES, TAGS, 9);
        refused(KIND, -10, "dub", PLUG, RACK, 8);
    }

    private static void sumAndMatch() {
        refused(NULL, 0, "sum", NOTHING);
        refused(KIND, 0, "sum", PLUG);
        refused(NULL, -110, "match", NOTHING, INTS);
        refused(KIND, -110, "match", PLUG, INTS);
        refused(NULL, -110, "match", INTS, NOTHING);
        refused(KIND, -110, "match", INTS, PLUG);
        // Of the first one, where both are refused.
        refused(NULL, -110, "match", NOTHING, PLUG);
        refused(KIND, -110, "match", PLUG, NOTHING);
    }

    private static void told() {
        refused(NULL, 0, "number", NOTHING, 9);
        refused(KIND, 0, "number", PLUG, 9);
        refused(NULL, -10, "kind", NOTHING, 9);
        refused(KIND, -10, "kind", PLUG, 9);
        for (int i : new int[] {-1, 3, LEAST, MOST}) {
            refused(INDEX, 0, "number", INTS, i);
            refused(INDEX, -10, "kind", TAGS, i);
        }
        refused(INDEX, 0, "number", Laid.NO_CELLS, 0);
        refused(INDEX, -10, "kind", Laid.NO_CELLS, 0);
        refused(NULL, -10, "cells", NOTHING);
        refused(KIND, -10, "cells", PLUG);
    }
}
