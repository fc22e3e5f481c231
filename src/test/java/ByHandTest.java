/** Promises 19 to 23: splice, dub, sum, match and why. */
public final class ByHandTest {
    private static final int[] NO_CHANNEL = {-1, 16, Integer.MIN_VALUE, Integer.MAX_VALUE};

    public static void main(String[] args) {
        splice();
        spliceOverlaps();
        spliceRefused();
        dub();
        dubTakes();
        dubRefused();
        sum();
        match();
        matchRefused();
        why();
        Due.close();
    }

    /** A channel's tape of a kind, with these cells. */
    private static void fill(PatchBay x, int channel, int kind, long... numbers) {
        x.tape(channel, kind, numbers.length);
        for (int i = 0; i < numbers.length; i++) {
            x.stamp(channel, i, kind, numbers[i]);
        }
    }

    private static void numbers(String what, PatchBay x, int channel, long... due) {
        Due.is(what + ": cells", x.cells(channel), due.length);
        for (int i = 0; i < due.length; i++) {
            Due.is(what + ": cell " + i, x.number(channel, i), due[i]);
        }
    }

    private static void splice() {
        PatchBay x = new PatchBay();
        fill(x, 0, 1, 1, 2, 3, 4);
        fill(x, 1, 5, 9, 9, 9, 9, 9);
        Due.is("19 written", x.splice(0, 1, 1, 2, 2), 2);
        numbers("19", x, 1, 9, 9, 2, 3, 9);
        Due.is("19 none", x.splice(0, 99, 1, -9, 0), 0);
        Due.is("19 none: why", x.why(), 0);
        x.cells(8);
        Due.is("19 none of nothing", x.splice(8, 0, 9, 0, 0), 0);
        Due.is("19 none of nothing: why", x.why(), 0);
        x.tape(2, 4, 32);
        x.tape(3, 5, 32);
        Due.is("19 most", x.splice(2, 0, 3, 0, 32), 32);
        fill(x, 4, 10, new long[2]);
        x.rack(4, 0, 2);
        x.tape(5, 10, 2);
        Due.is("19 racks", x.splice(4, 0, 5, 0, 2), 2);
        x.unrack(5, 0, 6);
        x.stamp(6, 0, 4, 5);
        Due.is("19 that itself", x.number(2, 0), 5);
    }

    private static void spliceOverlaps() {
        PatchBay x = new PatchBay();
        fill(x, 0, 4, 1, 2, 3, 4);
        Due.is("19 forward on its own", x.splice(0, 0, 0, 1, 3), 3);
        numbers("19 each as it is then", x, 0, 1, 1, 1, 1);
        fill(x, 0, 4, 1, 2, 3, 4);
        Due.is("19 backward on its own", x.splice(0, 1, 0, 0, 3), 3);
        numbers("19 each as it is then", x, 0, 2, 3, 4, 4);
    }

    private static void spliceRefused() {
        PatchBay x = new PatchBay();
        fill(x, 0, 4, 1, 2, 3);
        fill(x, 1, 4, 0, 0, 0, 0);
        Due.is("19 up to the end of the first", x.splice(0, 1, 1, 0, 5), 2);
        Due.is("19 why", x.why(), 3);
        numbers("19 what was written stays", x, 1, 2, 3, 0, 0);
        Due.is("19 up to the end of the other", x.splice(0, 0, 1, 2, 3), 2);
        Due.is("19 below", x.splice(0, -1, 1, 0, 2), 0);
        Due.is("19 why", x.why(), 3);
        Due.is("19 far", x.splice(0, Integer.MAX_VALUE, 1, Integer.MAX_VALUE, 32), 0);
        Due.is("19 nothing", x.splice(8, 0, 1, 0, 1), 0);
        Due.is("19 why", x.why(), 1);
        x.plug(2);
        Due.is("19 to a plug", x.splice(0, 0, 2, 0, 1), 0);
        Due.is("19 why", x.why(), 2);
        x.tape(3, 9, 3);
        x.tape(4, 8, 3);
        x.tag(4, 0, true);
        x.tag(4, 1, false);
        Due.is("19 up to what is not taken", x.splice(4, 0, 3, 0, 3), 1);
        Due.is("19 why", x.why(), 2);
        Due.is("19 counted: KIND", x.count(4), 2);
        x.cells(8);
        Due.is("19 below none", x.splice(0, 0, 1, 0, -1), -1);
        Due.is("19 above", x.splice(0, 0, 1, 0, 33), -1);
        for (int c : NO_CHANNEL) {
            Due.is("19 channel " + c, x.splice(c, 0, 1, 0, 1), -1);
            Due.is("19 other " + c, x.splice(0, 0, c, 0, 1), -1);
        }
        Due.is("19 OUTSIDE leaves why", x.why(), 1);
    }

    private static void dub() {
        PatchBay x = new PatchBay();
        fill(x, 0, 5, 16777217, 2, -3);
        Due.is("20 floats", x.dub(1, 0, 6), 3);
        numbers("20 floats", x, 1, 16777216, 2, -3);
        Due.is("20 kind", x.kind(1, 0), 6);
        x.stamp(1, 1, 6, 8);
        Due.is("20 a new tape", x.number(0, 1), 2);
        Due.is("20 its own", x.dub(0, 0, 7), 3);
        Due.is("20 kind", x.kind(0, 0), 7);
        numbers("20 its own", x, 0, 16777217, 2, -3);
        x.tape(2, 0, 0);
        x.plug(3);
        Due.is("20 no cells", x.dub(3, 2, 10), 0);
        Due.is("20 has a tape", x.of(3, 3), 1);
        Due.is("20 of no cells", x.cells(3), 0);
        x.tape(4, 4, 2);
        x.tape(5, 10, 2);
        x.rack(5, 1, 4);
        Due.is("20 a rack", x.dub(6, 5, 10), 2);
        x.unrack(6, 1, 7);
        x.stamp(7, 1, 4, 6);
        Due.is("20 that itself", x.number(4, 1), 6);
        x.tape(8, 8, 2);
        x.tag(8, 0, true);
        Due.is("20 seals and empty ones", x.dub(8, 8, 9), 2);
        Due.is("20 number", x.number(8, 0), 1);
        Due.is("20 the tape is of seals", x.tag(8, 1, false), -12);
    }

    private static void dubTakes() {
        String[] taken = {"0", "1", "12", "3", "1234", "12345", "123456", "1234567", "", "", ""};
        PatchBay x = new PatchBay();
        for (int kind = 0; kind <= 7; kind++) {
            fill(x, kind, kind, 1);
            for (int to = 0; to <= 10; to++) {
                boolean takes = taken[to].indexOf('0' + kind) >= 0;
                Due.is("20 " + kind + " to " + to, x.dub(9, kind, to), takes ? 1 : -12);
            }
        }
        for (int kind = 8; kind <= 10; kind++) {
            x.tape(kind, kind, 1);
        }
        for (int kind = 8; kind <= 10; kind++) {
            for (int to = 0; to <= 10; to++) {
                Due.is("20 an empty one to " + to, x.dub(11, kind, to), to < 8 ? -12 : 1);
            }
        }
    }

    private static void dubRefused() {
        PatchBay x = new PatchBay();
        fill(x, 0, 5, 1, 2);
        fill(x, 1, 4, 7, 8, 9);
        Due.is("20 not taken", x.dub(1, 0, 4), -12);
        Due.is("20 why", x.why(), 2);
        numbers("20 has what it had", x, 1, 7, 8, 9);
        Due.is("20 nothing", x.dub(1, 8, 4), -11);
        Due.is("20 why", x.why(), 1);
        x.plug(2);
        Due.is("20 a plug", x.dub(1, 2, 4), -12);
        numbers("20 has what it had", x, 1, 7, 8, 9);
        x.tape(3, 8, 2);
        x.tag(3, 0, true);
        x.tag(3, 1, false);
        Due.is("20 the second is not taken", x.dub(1, 3, 9), -12);
        Due.is("20 counted", x.count(4), 3);
        x.cells(8);
        Due.is("20 kind -1", x.dub(1, 0, -1), -1);
        Due.is("20 kind 11", x.dub(1, 0, 11), -1);
        for (int c : NO_CHANNEL) {
            Due.is("20 channel " + c, x.dub(c, 0, 5), -1);
            Due.is("20 other " + c, x.dub(1, c, 5), -1);
        }
        Due.is("20 OUTSIDE leaves why", x.why(), 1);
        x.dub(4, 0, 5);
        Due.is("20 why is none", x.why(), 0);
    }

    private static void sum() {
        PatchBay x = new PatchBay();
        fill(x, 0, 5, Long.MAX_VALUE, 2, -5);
        Due.is("21 going round", x.sum(0), Long.MAX_VALUE - 3);
        fill(x, 1, 0, 7, 0, 9);
        Due.is("21 bits", x.sum(1), 2);
        fill(x, 2, 3, 65535, 65535);
        Due.is("21 chars", x.sum(2), 131070);
        x.tape(3, 4, 0);
        Due.is("21 no cells", x.sum(3), 0);
        x.tape(4, 8, 3);
        x.tag(4, 0, true);
        x.tag(4, 2, false);
        Due.is("21 tags", x.sum(4), 3);
        x.tape(5, 10, 2);
        x.rack(5, 0, 2);
        x.tape(6, 4, 9);
        x.rack(5, 0, 6);
        x.rack(5, 1, 6);
        Due.is("21 racks", x.sum(5), 18);
        Due.is("21 why is none", x.why(), 0);
        fill(x, 7, 6, Long.MAX_VALUE, Long.MAX_VALUE);
        Due.is("21 floats", x.sum(7), -2);
        x.plug(9);
        Due.is("21 a plug", x.sum(9), 0);
        Due.is("21 why", x.why(), 2);
        Due.is("21 nothing", x.sum(8), 0);
        Due.is("21 why", x.why(), 1);
        x.sum(9);
        for (int c : NO_CHANNEL) {
            Due.is("21 channel " + c, x.sum(c), 0);
        }
        Due.is("21 OUTSIDE leaves why", x.why(), 2);
        x.sum(3);
        Due.is("21 why is none", x.why(), 0);
    }

    private static void match() {
        PatchBay x = new PatchBay();
        fill(x, 0, 5, 1, 2, 3);
        fill(x, 1, 7, 1, 2, 3);
        Due.is("22 alike", x.match(0, 1), -4);
        Due.is("22 with itself", x.match(0, 0), -4);
        x.stamp(1, 2, 7, 4);
        Due.is("22 unlike at the last", x.match(0, 1), 2);
        x.stamp(1, 0, 7, 4);
        Due.is("22 unlike at the first", x.match(0, 1), 0);
        fill(x, 2, 5, 1, 2);
        Due.is("22 just the first has one", x.match(0, 2), 2);
        Due.is("22 just the other has one", x.match(2, 0), 2);
        x.tape(3, 8, 0);
        x.tape(4, 0, 0);
        Due.is("22 no cells", x.match(3, 4), -1);
        Due.is("22 none and some", x.match(3, 0), 0);
        x.tape(5, 10, 2);
        x.tape(6, 8, 2);
        Due.is("22 empty ones", x.match(5, 6), -3);
        x.tag(6, 1, false);
        x.tape(7, 4, 1);
        x.rack(5, 1, 7);
        Due.is("22 a tag 1 and a tape of one cell", x.match(5, 6), -3);
        x.tape(8, 4, 32);
        x.tape(9, 5, 32);
        Due.is("22 most", x.match(8, 9), -33);
        Due.is("22 why is none", x.why(), 0);
    }

    private static void matchRefused() {
        PatchBay x = new PatchBay();
        x.tape(0, 4, 1);
        x.plug(1);
        Due.is("22 the first: NULL", x.match(2, 1), -111);
        Due.is("22 why", x.why(), 1);
        Due.is("22 the first: KIND", x.match(1, 2), -112);
        Due.is("22 why", x.why(), 2);
        Due.is("22 the other: NULL", x.match(0, 2), -111);
        Due.is("22 the other: KIND", x.match(0, 1), -112);
        Due.is("22 counted: NULL", x.count(3), 2);
        Due.is("22 counted: KIND", x.count(4), 2);
        for (int c : NO_CHANNEL) {
            Due.is("22 channel " + c, x.match(c, 2), -101);
            Due.is("22 other " + c, x.match(2, c), -101);
        }
        Due.is("22 OUTSIDE leaves why", x.why(), 2);
        x.match(0, 0);
        Due.is("22 why is none", x.why(), 0);
    }

    private static void why() {
        PatchBay x = new PatchBay();
        x.tape(0, 4, 1);
        x.cells(9);
        Due.is("23 the latest", x.why(), 1);
        Due.is("23 asked again", x.why(), 1);
        // These tell no refusal, so they leave it.
        x.plug(1);
        x.strip(1);
        x.share(1, 0);
        x.head(0, 0);
        x.step(0, 1);
        x.loop(0, true);
        x.cable(0, 0, 8);
        x.patience(0, 2);
        x.pull(0);
        x.plugIn(0);
        x.of(0, 0);
        x.told(0, 0);
        x.tick();
        x.fault(0, 0);
        x.count(0);
        Due.is("23 left by the others", x.why(), 1);
        x.number(0, 0);
        Due.is("23 number", x.why(), 0);
        x.number(0, 1);
        Due.is("23 number", x.why(), 3);
        x.kind(0, 0);
        Due.is("23 kind", x.why(), 0);
        x.kind(8, 0);
        Due.is("23 kind", x.why(), 1);
        x.cells(0);
        Due.is("23 cells", x.why(), 0);
        x.tape(0, 4, -3);
        Due.is("23 tape", x.why(), 5);
    }
}
