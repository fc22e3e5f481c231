/** Promises 24 to 30: what is told. */
public final class ToldTest {
    private static final int[] NO_CHANNEL = {-1, 16, Integer.MIN_VALUE, Integer.MAX_VALUE};

    public static void main(String[] args) {
        number();
        kind();
        cells();
        of();
        told();
        faults();
        count();
        Due.close();
    }

    private static void number() {
        PatchBay x = new PatchBay();
        x.tape(0, 5, 2);
        x.stamp(0, 1, 5, Long.MIN_VALUE);
        Due.is("24", x.number(0, 1), Long.MIN_VALUE);
        Due.is("24 above", x.number(0, 2), 0);
        Due.is("24 why", x.why(), 3);
        Due.is("24 below", x.number(0, -1), 0);
        Due.is("24 nothing", x.number(1, 9), 0);
        Due.is("24 why", x.why(), 1);
        x.plug(1);
        Due.is("24 a plug", x.number(1, 9), 0);
        Due.is("24 why", x.why(), 2);
        for (int c : NO_CHANNEL) {
            Due.is("24 channel " + c, x.number(c, 0), 0);
        }
        Due.is("24 OUTSIDE leaves why", x.why(), 2);
        Due.is("24 counted", x.count(5), 2);
        x.number(0, 0);
        Due.is("24 why is none", x.why(), 0);
    }

    private static void kind() {
        PatchBay x = new PatchBay();
        for (int kind = 0; kind <= 10; kind++) {
            x.tape(kind, kind, 1);
            Due.is("25 kind " + kind, x.kind(kind, 0), kind < 8 ? kind : 11);
        }
        x.tag(8, 0, false);
        Due.is("25 a tag", x.kind(8, 0), 8);
        x.tag(8, 0, true);
        Due.is("25 a seal of tags", x.kind(8, 0), 9);
        x.tag(9, 0, true);
        Due.is("25 a seal", x.kind(9, 0), 9);
        x.rack(10, 0, 4);
        Due.is("25 a tape", x.kind(10, 0), 10);
        x.stamp(5, 0, 1, 4);
        Due.is("25 a byte of longs is a long", x.kind(5, 0), 5);
        Due.is("25 above", x.kind(5, 1), -13);
        Due.is("25 below", x.kind(5, -1), -13);
        Due.is("25 nothing", x.kind(15, 1), -11);
        x.plug(15);
        Due.is("25 a plug", x.kind(15, 1), -12);
        Due.is("25 why", x.why(), 2);
        for (int c : NO_CHANNEL) {
            Due.is("25 channel " + c, x.kind(c, 0), -1);
        }
        Due.is("25 OUTSIDE leaves why", x.why(), 2);
    }

    private static void cells() {
        PatchBay x = new PatchBay();
        x.tape(0, 10, 32);
        Due.is("26", x.cells(0), 32);
        x.tape(0, 0, 0);
        Due.is("26 none", x.cells(0), 0);
        Due.is("26 nothing", x.cells(15), -11);
        Due.is("26 why", x.why(), 1);
        x.plug(15);
        Due.is("26 a plug", x.cells(15), -12);
        for (int c : NO_CHANNEL) {
            Due.is("26 channel " + c, x.cells(c), -1);
        }
        Due.is("26 OUTSIDE leaves why", x.why(), 2);
        x.cells(0);
        Due.is("26 why is none", x.why(), 0);
    }

    private static void of() {
        PatchBay x = new PatchBay();
        x.head(2, -9);
        x.step(2, -2);
        x.loop(2, true);
        x.plug(2);
        int[] due = {-9, -2, 1, 2};
        for (int what = 0; what < due.length; what++) {
            Due.is("27 of " + what, x.of(2, what), due[what]);
        }
        x.tape(2, 8, 1);
        Due.is("27 a tape", x.of(2, 3), 1);
        Due.is("27 what -1", x.of(2, -1), Integer.MIN_VALUE);
        Due.is("27 what 4", x.of(2, 4), Integer.MIN_VALUE);
        for (int c : NO_CHANNEL) {
            Due.is("27 channel " + c, x.of(c, 0), Integer.MIN_VALUE);
        }
    }

    private static void told() {
        PatchBay x = new PatchBay();
        x.tape(3, 4, 4);
        x.tape(7, 4, 4);
        x.stamp(3, 1, 4, 5);
        x.stamp(3, 2, 4, 6);
        x.cable(0, 9, 9);
        x.cable(1, 3, 7);
        x.patience(1, 8);
        for (int i = 0; i < 6; i++) {
            x.tick();
        }
        // Ticks: shut, carried, carried, shut, refused, refused.
        int[] due = {1, 3, 7, 1, 8, 2, 2, 2};
        for (int what = 0; what < due.length; what++) {
            Due.is("28 told " + what, x.told(1, what), due[what]);
        }
        x.pull(1);
        Due.is("28 out", x.told(1, 3), 0);
        Due.is("28 what -1", x.told(1, -1), -1);
        Due.is("28 what 8", x.told(1, 8), -1);
        for (int cable : new int[] {-1, 2, 24, Integer.MIN_VALUE, Integer.MAX_VALUE}) {
            Due.is("28 cable " + cable, x.told(cable, 0), -1);
        }
    }

    private static void faults() {
        PatchBay x = new PatchBay();
        x.loop(5, true);
        x.loop(6, true);
        x.plug(6);
        for (int tick = 1; tick <= 9; tick++) {
            x.tick();
        }
        Due.is("29 the last kept of 18", x.fault(17, 0), 1);
        Due.is("29 none kept", x.fault(18, 0), -1);
        x.tick();
        Due.is("29 twenty are kept", x.fault(19, 0), 1);
        x.tick();
        for (int i = 0; i < 20; i++) {
            Due.is("29 time " + i, x.fault(i, 0), 11 - i / 2);
            Due.is("29 who " + i, x.fault(i, 1), i % 2 == 0 ? 106 : 105);
            Due.is("29 refusal " + i, x.fault(i, 2), i % 2 == 0 ? 2 : 1);
        }
        for (int i : new int[] {-1, 20, 21, Integer.MIN_VALUE, Integer.MAX_VALUE}) {
            Due.is("29 fault " + i, x.fault(i, 0), -1);
        }
        Due.is("29 what -1", x.fault(0, -1), -1);
        Due.is("29 what 3", x.fault(0, 3), -1);
        Due.is("29 all are counted", x.count(2), 22);
    }

    private static void count() {
        PatchBay x = new PatchBay();
        x.tape(0, 4, 1);
        x.plug(1);
        x.tape(2, 4, 0);
        x.loop(2, true);
        x.cable(0, 3, 0);
        x.cable(0, 0, 1);
        x.patience(1, 9);
        x.tick();
        x.tick();
        // By ticks: NULL (once, then that cable is out), KIND, ZERO; INDEX, ZERO.
        int[] byTicks = {2, 2, 5, 1, 1, 1, 2, 0};
        for (int what = 0; what < byTicks.length; what++) {
            Due.is("30 by ticks " + what, x.count(what), byTicks[what]);
        }
        x.number(9, 0);
        x.kind(1, 0);
        x.match(1, 9);
        x.probe(0, 1, 4);
        x.tape(0, 4, -1);
        x.splice(0, 0, 9, 0, 1);
        int[] byCalls = {2, 2, 5, 3, 3, 2, 2, 1};
        for (int what = 0; what < byCalls.length; what++) {
            Due.is("30 and by calls " + what, x.count(what), byCalls[what]);
        }
        Due.is("30 what -1", x.count(-1), -1);
        Due.is("30 what 8", x.count(8), -1);
        Due.is("30 least", x.count(Integer.MIN_VALUE), -1);
        Due.is("30 most", x.count(Integer.MAX_VALUE), -1);
    }
}
