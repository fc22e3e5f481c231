/** Promises 14 to 18: cables, and what a tick does. */
public final class CablesTest {
    private static final int WIRE = 0, GATE = 1, PAIR = 2, SWAP = 3;
    private static final int[] NO_CABLE = {-1, 1, 24, Integer.MIN_VALUE, Integer.MAX_VALUE};

    public static void main(String[] args) {
        cable();
        patience();
        pullAndPlugIn();
        wire();
        gate();
        pair();
        pairGoesRound();
        swap();
        swapRefused();
        order();
        strikes();
        strikesBeyondPatience();
        moves();
        loops();
        Due.close();
    }

    /** Two channels with tapes of a kind each, of three cells. */
    private static PatchBay two(int kind, int otherKind) {
        PatchBay x = new PatchBay();
        x.tape(0, kind, 3);
        x.tape(1, otherKind, 3);
        return x;
    }

    private static void cable() {
        PatchBay x = new PatchBay();
        Due.is("14 kind -1", x.cable(-1, 0, 0), -1);
        Due.is("14 kind 4", x.cable(4, 0, 0), -1);
        for (int c : new int[] {-1, 16, Integer.MIN_VALUE, Integer.MAX_VALUE}) {
            Due.is("14 from " + c, x.cable(0, c, 0), -1);
            Due.is("14 to " + c, x.cable(0, 0, c), -1);
        }
        for (int i = 0; i < 24; i++) {
            Due.is("14 number", x.cable(i % 4, i % 16, 15 - i % 16), i);
        }
        Due.is("14 full", x.cable(0, 0, 0), -2);
        Due.is("14 OUTSIDE before full", x.cable(4, 0, 0), -1);
        Due.is("14 count", x.count(0), 24);
        int[] due = {3, 7, 8, 1, 1, 0, 0, 0};
        for (int what = 0; what < due.length; what++) {
            Due.is("14 told " + what, x.told(23, what), due[what]);
        }
    }

    private static void patience() {
        PatchBay x = new PatchBay();
        x.cable(WIRE, 0, 1);
        Due.is("15 first", x.patience(0, 9), 1);
        Due.is("15 before", x.patience(0, 2), 9);
        Due.is("15 below", x.patience(0, 0), -1);
        Due.is("15 above", x.patience(0, 10), -1);
        Due.is("15 is", x.told(0, 4), 2);
        for (int c : NO_CABLE) {
            Due.is("15 cable " + c, x.patience(c, 1), -1);
        }
        x.tick();
        Due.is("15 strikes", x.told(0, 5), 1);
        Due.is("15 least", x.patience(0, 1), 2);
        Due.is("15 is", x.told(0, 4), 1);
        Due.is("15 strikes stay", x.told(0, 5), 1);
        Due.is("15 in as it was", x.told(0, 3), 1);
    }

    private static void pullAndPlugIn() {
        PatchBay x = two(4, 4);
        x.cable(WIRE, 0, 1);
        Due.is("16 was in", x.pull(0), 1);
        Due.is("16 was out", x.pull(0), 0);
        Due.is("16 is out", x.told(0, 3), 0);
        Due.is("16 carries no more", x.tick(), 0);
        Due.is("17 was out", x.plugIn(0), 0);
        Due.is("17 was in", x.plugIn(0), 1);
        Due.is("17 is in", x.told(0, 3), 1);
        Due.is("17 carries again", x.tick(), 1);
        for (int c : NO_CABLE) {
            Due.is("16 cable " + c, x.pull(c), -1);
            Due.is("17 cable " + c, x.plugIn(c), -1);
        }
        x.strip(0);
        x.patience(0, 5);
        x.tick();
        Due.is("17 strikes", x.told(0, 5), 1);
        x.pull(0);
        Due.is("16 strikes stay", x.told(0, 5), 1);
        x.plugIn(0);
        Due.is("17 no strikes", x.told(0, 5), 0);
        x.tick();
        x.plugIn(0);
        Due.is("17 no strikes, in as it was", x.told(0, 5), 0);
    }

    private static void wire() {
        PatchBay x = two(1, 7);
        x.stamp(0, 1, 1, -7);
        x.cable(WIRE, 0, 1);
        x.head(0, 1);
        x.head(1, 2);
        Due.is("18 wire", x.tick(), 1);
        Due.is("18 carried", x.number(1, 2), -7);
        Due.is("18 its kind is the tape's", x.kind(1, 2), 7);
        Due.is("18 the giver keeps it", x.number(0, 1), -7);
        Due.is("18 told", x.told(0, 6), 1);
        Due.is("18 the head moved", x.of(0, 0), 2);
        Due.is("18 refused", x.tick(), 0);
        Due.is("18 index", x.fault(0, 2), 3);
        x = new PatchBay();
        x.cable(WIRE, 0, 1);
        x.patience(0, 9);
        x.tick();
        Due.is("18 the reading first: NULL", x.fault(0, 2), 1);
        x.plug(0);
        x.tick();
        Due.is("18 a plug", x.fault(0, 2), 2);
        x.tape(0, 8, 1);
        x.tape(1, 4, 1);
        x.head(0, 0);
        x.head(1, 5);
        x.tick();
        Due.is("18 an empty cell to ints before the index", x.fault(0, 2), 2);
        x.tape(0, 5, 1);
        x.head(0, 0);
        x.tick();
        Due.is("18 the index before what is not taken", x.fault(0, 2), 3);
        x.head(0, 0);
        x.head(1, 0);
        x.tick();
        Due.is("18 not taken", x.fault(0, 2), 2);
        Due.is("18 strikes", x.told(0, 5), 5);
        Due.is("18 why is none of ticks", x.why(), 0);
    }

    private static void gate() {
        PatchBay x = two(4, 4);
        x.stamp(0, 1, 4, 6);
        x.stamp(1, 0, 4, 3);
        x.cable(GATE, 0, 1);
        x.patience(0, 9);
        Due.is("18 shut is not carried", x.tick(), 0);
        Due.is("18 nothing written", x.number(1, 0), 3);
        Due.is("18 shut", x.told(0, 7), 1);
        Due.is("18 shut: not carried", x.told(0, 6), 0);
        Due.is("18 shut: no fault", x.count(2), 0);
        Due.is("18 open", x.tick(), 1);
        Due.is("18 written", x.number(1, 1), 6);
        Due.is("18 carried", x.told(0, 6), 1);
        x.strip(1);
        x.stamp(0, 2, 4, 1);
        Due.is("18 a gate refused", x.tick(), 0);
        Due.is("18 strikes", x.told(0, 5), 1);
        x.head(0, 0);
        x.tick();
        Due.is("18 shut before the target is looked at", x.told(0, 7), 2);
        Due.is("18 shut: no strikes", x.told(0, 5), 0);
        x.head(0, 3);
        x.tick();
        Due.is("18 the reading refused", x.fault(0, 2), 3);
        x.tape(0, 10, 1);
        x.tape(2, 4, 0);
        x.rack(0, 0, 2);
        x.head(0, 0);
        x.tick();
        Due.is("18 a tape of no cells shuts", x.told(0, 7), 3);
        x.tape(0, 8, 1);
        x.head(0, 0);
        x.tick();
        Due.is("18 an empty cell shuts", x.told(0, 7), 4);
    }

    private static void pair() {
        PatchBay x = two(4, 5);
        x.stamp(0, 0, 4, 10);
        x.stamp(0, 1, 4, 11);
        x.cable(PAIR, 0, 1);
        x.head(1, 1);
        Due.is("18 pair", x.tick(), 1);
        Due.is("18 the first", x.number(1, 1), 10);
        Due.is("18 the second", x.number(1, 2), 11);
        x.head(0, 0);
        x.head(1, 2);
        x.patience(0, 9);
        Due.is("18 the second refused", x.tick(), 0);
        Due.is("18 the first stays", x.number(1, 2), 10);
        Due.is("18 told: carried once", x.told(0, 6), 1);
        Due.is("18 one fault", x.count(2), 1);
        x.head(0, 3);
        x.head(1, 0);
        x.stamp(1, 1, 5, 99);
        x.tick();
        Due.is("18 the first refused ends it", x.count(5), 2);
        Due.is("18 nothing written", x.number(1, 1), 99);
        x = new PatchBay();
        x.tape(0, 4, 3);
        x.stamp(0, 0, 4, 5);
        x.cable(PAIR, 0, 0);
        x.share(1, 0);
        x.cable(PAIR, 0, 1);
        x.pull(0);
        x.head(1, 1);
        x.tick();
        Due.is("18 the second reads what the first wrote", x.number(0, 2), 5);
    }

    private static void pairGoesRound() {
        PatchBay x = two(4, 4);
        x.cable(PAIR, 0, 1);
        x.head(0, -1);
        x.tick();
        Due.is("18 the first is refused", x.fault(0, 2), 3);
        x.plugIn(0);
        x.head(0, Integer.MAX_VALUE);
        x.head(1, Integer.MAX_VALUE);
        x.tick();
        Due.is("18 far out", x.fault(0, 2), 3);
        Due.is("18 the head goes round", x.of(0, 0), Integer.MIN_VALUE);
    }

    private static void swap() {
        PatchBay x = two(4, 4);
        x.stamp(0, 1, 4, 10);
        x.stamp(1, 2, 4, 20);
        x.cable(SWAP, 0, 1);
        x.head(0, 1);
        x.head(1, 2);
        Due.is("18 swap", x.tick(), 1);
        Due.is("18 swapped", x.number(0, 1), 20);
        Due.is("18 swapped", x.number(1, 2), 10);
        x = new PatchBay();
        x.tape(0, 4, 2);
        x.share(1, 0);
        x.stamp(0, 0, 4, 1);
        x.stamp(0, 1, 4, 2);
        x.cable(SWAP, 0, 1);
        x.head(1, 1);
        Due.is("18 on one tape", x.tick(), 1);
        Due.is("18 swapped", x.number(0, 0), 2);
        Due.is("18 swapped", x.number(0, 1), 1);
        x.cable(SWAP, 0, 0);
        x.pull(0);
        x.head(0, 1);
        Due.is("18 with itself", x.tick(), 1);
        Due.is("18 as it was", x.number(0, 1), 1);
        x = two(8, 9);
        x.tag(0, 0, true);
        x.tag(1, 0, true);
        x.cable(SWAP, 0, 1);
        Due.is("18 seals", x.tick(), 1);
        Due.is("18 swapped", x.number(0, 0), 2);
        Due.is("18 swapped", x.number(1, 0), 1);
        x = two(10, 10);
        x.tape(2, 4, 5);
        x.rack(0, 0, 2);
        x.cable(SWAP, 0, 1);
        Due.is("18 racks", x.tick(), 1);
        Due.is("18 swapped", x.kind(0, 0), 11);
        Due.is("18 swapped", x.unrack(1, 0, 3), 5);
        x.stamp(3, 4, 4, 8);
        Due.is("18 that itself", x.number(2, 4), 8);
    }

    private static void swapRefused() {
        PatchBay x = two(1, 4);
        x.stamp(0, 0, 1, 10);
        x.stamp(1, 0, 4, 20);
        x.cable(SWAP, 0, 1);
        x.patience(0, 9);
        Due.is("18 the second write refused", x.tick(), 0);
        Due.is("18 it has its cell again", x.number(1, 0), 20);
        Due.is("18 the other is as it was", x.number(0, 0), 10);
        Due.is("18 KIND", x.fault(0, 2), 2);
        Due.is("18 one refusal", x.count(4), 1);
        x.head(0, 0);
        x.head(1, 3);
        x.tick();
        Due.is("18 the second reading refused", x.fault(0, 2), 3);
        x.head(0, -1);
        x.strip(1);
        x.tick();
        Due.is("18 the first reading first", x.fault(0, 2), 3);
        x.head(0, 0);
        x.tick();
        Due.is("18 then the second", x.fault(0, 2), 1);
        x = two(4, 1);
        x.stamp(0, 0, 4, 10);
        x.stamp(1, 0, 1, 20);
        x.cable(SWAP, 0, 1);
        Due.is("18 the first write refused", x.tick(), 0);
        Due.is("18 as it was", x.number(0, 0), 10);
        Due.is("18 as it was", x.number(1, 0), 20);
        x = two(9, 8);
        x.tag(0, 0, true);
        x.tag(1, 0, false);
        x.cable(SWAP, 0, 1);
        Due.is("18 a tag to seals", x.tick(), 0);
        Due.is("18 its cell again", x.kind(1, 0), 8);
        Due.is("18 its cell again", x.number(1, 0), 2);
        Due.is("18 as it was", x.number(0, 0), 1);
        x = two(5, 6);
        x.stamp(1, 0, 6, Long.MAX_VALUE);
        x.cable(SWAP, 0, 1);
        Due.is("18 a float to longs", x.tick(), 0);
        Due.is("18 its cell again", x.number(1, 0), Long.MAX_VALUE);
    }

    private static void order() {
        PatchBay x = two(4, 4);
        x.tape(2, 4, 3);
        x.stamp(0, 0, 4, 7);
        x.cable(WIRE, 1, 2);
        x.cable(WIRE, 0, 1);
        Due.is("18 two", x.tick(), 2);
        Due.is("18 by numbers", x.number(2, 0), 0);
        Due.is("18 by numbers", x.number(1, 0), 7);
        x.head(0, 0);
        x.head(1, 0);
        x.head(2, 1);
        x.tick();
        Due.is("18 the cell of before", x.number(2, 1), 7);
        Due.is("18 time", x.count(1), 2);
        Due.is("18 no cable", new PatchBay().tick(), 0);
    }

    private static void strikes() {
        PatchBay x = two(4, 4);
        x.cable(WIRE, 0, 1);
        x.patience(0, 2);
        x.head(0, 3);
        Due.is("18 refused", x.tick(), 0);
        Due.is("18 in still", x.told(0, 3), 1);
        x.head(0, 0);
        x.head(1, 0);
        x.tick();
        Due.is("18 carried: no strikes", x.told(0, 5), 0);
        x.head(0, 3);
        x.tick();
        x.tick();
        Due.is("18 out", x.told(0, 3), 0);
        Due.is("18 strikes", x.told(0, 5), 2);
        Due.is("18 faults", x.count(2), 3);
        x.tick();
        Due.is("18 out: no fault more", x.count(2), 3);
        Due.is("18 fault: time", x.fault(0, 0), 4);
        Due.is("18 fault: who", x.fault(0, 1), 0);
        x.cable(WIRE, 9, 9);
        x.tick();
        Due.is("18 out at once with a patience of 1", x.told(1, 3), 0);
        Due.is("18 fault: who", x.fault(0, 1), 1);
    }

    private static void strikesBeyondPatience() {
        PatchBay x = new PatchBay();
        x.cable(WIRE, 0, 1);
        x.patience(0, 9);
        x.tick();
        x.tick();
        x.patience(0, 2);
        x.tick();
        Due.is("18 three strikes are not a patience of 2", x.told(0, 3), 1);
        Due.is("18 strikes", x.told(0, 5), 3);
        x.patience(0, 4);
        x.tick();
        Due.is("18 four are a patience of 4", x.told(0, 3), 0);
    }

    private static void moves() {
        PatchBay x = new PatchBay();
        x.step(1, -3);
        x.step(2, 0);
        x.head(3, Integer.MAX_VALUE);
        x.step(3, 3);
        x.plug(4);
        x.head(5, Integer.MIN_VALUE);
        x.step(5, -1);
        x.tick();
        Due.is("18 a step of 1", x.of(0, 0), 1);
        Due.is("18 a step of -3", x.of(1, 0), -3);
        Due.is("18 a step of 0", x.of(2, 0), 0);
        Due.is("18 going round", x.of(3, 0), Integer.MIN_VALUE + 2);
        Due.is("18 with a plug", x.of(4, 0), 1);
        Due.is("18 going round", x.of(5, 0), Integer.MAX_VALUE);
        Due.is("18 the last channel", x.of(15, 0), 1);
        Due.is("18 no fault", x.count(2), 0);
    }

    private static void loops() {
        PatchBay x = new PatchBay();
        for (int c = 0; c < 6; c++) {
            x.loop(c, true);
            x.head(c, 40);
        }
        x.plug(1);
        x.tape(2, 9, 0);
        x.tape(3, 4, 7);
        x.tape(4, 8, 5);
        x.step(4, -3);
        x.head(4, 1);
        x.tape(5, 4, 3);
        x.head(5, Integer.MAX_VALUE);
        x.tick();
        int[] heads = {40, 40, 40, 41 % 7, 3, Math.floorMod(Integer.MIN_VALUE, 3)};
        for (int c = 0; c < heads.length; c++) {
            Due.is("18 head of loop " + c, x.of(c, 0), heads[c]);
        }
        int[][] faults = {{1, 102, 4}, {1, 101, 2}, {1, 100, 1}};
        for (int i = 0; i < faults.length; i++) {
            for (int what = 0; what < 3; what++) {
                Due.is("18 fault of a loop", x.fault(i, what), faults[i][what]);
            }
        }
        Due.is("18 faults", x.count(2), 3);
        Due.is("18 ZERO is counted", x.count(6), 1);
        Due.is("18 why is none of ticks", x.why(), 0);
        x.cable(WIRE, 0, 0);
        x.tick();
        Due.is("18 cables before channels", x.fault(3, 1), 0);
    }
}
