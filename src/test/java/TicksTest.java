/** The Terms of cables, ticks and faults: each sentence that names an edge has a test of its own. */
public final class TicksTest {
    private static final int WIRE = 0, GATE = 1, PAIR = 2, SWAP = 3;
    private static final int NULL = 1, KIND = 2, INDEX = 3, ZERO = 4;
    private static final int LEAST = Integer.MIN_VALUE, MOST = Integer.MAX_VALUE;

    public static void main(String[] args) {
        timeGoesOn();
        headsAsTheyAreThen();
        cablesByNumbers();
        outIsLeftAlone();
        gateByNumber();
        gateRefused();
        gateAtOtherPlaces();
        pairKeepsTheFirst();
        pairRefusedTwice();
        pairBesideTheEnd();
        swapInOneCell();
        swapGivesBack();
        swapOrder();
        patienceOfEach();
        patienceMadeLess();
        shutEndsStrikes();
        carriedEndsStrikes();
        plugInBeginsAnew();
        countsOfATick();
        stepsGoRound();
        loopsAreBroughtIn();
        loopsGoRoundFirst();
        loopRefusals();
        loopsOfOneTape();
        loopAfterCables();
        fortyFaults();
        whyIsLeft();
        Due.close();
    }

    private static PatchBay two(int kind, int otherKind, int cells) {
        PatchBay x = new PatchBay();
        x.tape(0, kind, cells);
        x.tape(1, otherKind, cells);
        return x;
    }

    private static void heads(PatchBay x, int first, int second) {
        x.head(0, first);
        x.head(1, second);
    }

    private static void cableIs(String what, PatchBay x, int cable, int in, int strikes, int carried, int shut) {
        Due.is(what + ": in", x.told(cable, 3), in);
        Due.is(what + ": strikes", x.told(cable, 5), strikes);
        Due.is(what + ": carried", x.told(cable, 6), carried);
        Due.is(what + ": shut", x.told(cable, 7), shut);
    }

    private static void faultIs(String what, PatchBay x, int i, int time, int who, int refusal) {
        Due.is(what + ": time", x.fault(i, 0), time);
        Due.is(what + ": who", x.fault(i, 1), who);
        Due.is(what + ": refusal", x.fault(i, 2), refusal);
    }

    /** "TIME (0 at first) is 1 more", with no cables and no tapes, too. */
    private static void timeGoesOn() {
        PatchBay x = new PatchBay();
        for (int time = 0; time < 5; time++) {
            Due.is("time", x.count(1), time);
            Due.is("none is carried", x.tick(), 0);
        }
    }

    /** "x being the HEAD of FROM, y that of TO, as they are then": no head moves before all cables. */
    private static void headsAsTheyAreThen() {
        PatchBay x = two(4, 4, 2);
        x.tape(2, 4, 2);
        x.stamp(0, 1, 4, 6);
        heads(x, 1, 0);
        x.cable(WIRE, 0, 1);
        x.cable(WIRE, 0, 2);
        x.tick();
        Due.is("the first reads place 1", x.number(1, 0), 6);
        Due.is("so does the second", x.number(2, 0), 6);
        x.head(0, 0);
        x.head(1, 1);
        x.tick();
        Due.is("the heads that were set", x.number(1, 1), 0);
    }

    /** "Each CABLE that is IN, by numbers": a later one carries what an earlier one brought. */
    private static void cablesByNumbers() {
        PatchBay x = new PatchBay();
        for (int channel = 0; channel < 6; channel++) {
            x.tape(channel, 4, 1);
        }
        x.stamp(0, 0, 4, 3);
        for (int channel = 0; channel < 5; channel++) {
            x.cable(WIRE, channel, channel + 1);
        }
        Due.is("all five", x.tick(), 5);
        Due.is("to the last one in one tick", x.number(5, 0), 3);
    }

    /** "Each CABLE that is IN": one that is OUT is not carried, shut, refused or counted. */
    private static void outIsLeftAlone() {
        PatchBay x = two(4, 4, 2);
        x.stamp(0, 0, 4, 1);
        x.stamp(1, 0, 4, 5);
        for (int kind = 0; kind < 4; kind++) {
            x.cable(kind, 0, 1);
            x.pull(kind);
        }
        x.cable(WIRE, 8, 9);
        x.tick();
        Due.is("none is carried", x.tick(), 0);
        for (int kind = 0; kind < 4; kind++) {
            cableIs("out, kind " + kind, x, kind, 0, 0, 0, 0);
        }
        cableIs("out by its first refusal", x, 4, 0, 1, 0, 0);
        Due.is("one fault", x.count(2), 1);
        Due.is("nothing is written", x.number(1, 0), 5);
    }

    /** "If its NUMBER is 0, the GATE is SHUT", of a cell of each kind. */
    private static void gateByNumber() {
        for (int kind = 0; kind < 8; kind++) {
            PatchBay x = two(kind, kind, 2);
            long open = kind == 0 || kind == 3 ? 1 : -1;
            x.stamp(0, 1, kind, open);
            x.stamp(1, 0, kind, 1);
            x.cable(GATE, 0, 1);
            Due.is("a gate at 0", x.tick(), 0);
            Due.is("nothing is written", x.number(1, 0), 1);
            cableIs("shut", x, 0, 1, 0, 0, 1);
            Due.is("a gate at another number", x.tick(), 1);
            Due.is("it is written", x.number(1, 1), open);
            cableIs("carried", x, 0, 1, 0, 1, 1);
        }
        PatchBay x = two(10, 10, 2);
        x.tape(2, 4, 0);
        x.tape(3, 4, 1);
        x.rack(0, 0, 2);
        x.rack(0, 1, 3);
        x.cable(GATE, 0, 1);
        Due.is("a tape of no cells", x.tick(), 0);
        Due.is("is not written", x.kind(1, 0), 11);
        Due.is("a tape of one cell", x.tick(), 1);
        Due.is("is written", x.kind(1, 1), 10);
        x = two(8, 8, 2);
        x.tag(0, 1, false);
        x.tag(1, 0, true);
        x.cable(GATE, 0, 1);
        Due.is("an empty cell", x.tick(), 0);
        Due.is("is not written", x.kind(1, 0), 9);
        Due.is("a tag", x.tick(), 1);
        Due.is("is written", x.number(1, 1), 1);
        Due.is("no fault", x.count(2), 0);
    }

    /** "READ x of FROM" comes first: a gate is refused there, but shut before TO is looked at. */
    private static void gateRefused() {
        PatchBay x = new PatchBay();
        x.cable(GATE, 0, 1);
        x.patience(0, 9);
        x.tick();
        faultIs("nothing to read", x, 0, 1, 0, NULL);
        x.plug(0);
        x.tick();
        faultIs("a plug to read", x, 0, 2, 0, KIND);
        x.tape(0, 4, 1);
        x.tick();
        faultIs("no such cell to read", x, 0, 3, 0, INDEX);
        cableIs("refused", x, 0, 1, 3, 0, 0);
        x.head(0, 0);
        x.tick();
        cableIs("shut, though there is nothing to write to", x, 0, 1, 0, 0, 1);
        x.stamp(0, 0, 4, 2);
        x.head(0, 0);
        x.tick();
        faultIs("nothing to write to", x, 0, 5, 0, NULL);
        cableIs("refused", x, 0, 1, 1, 0, 1);
    }

    private static void gateAtOtherPlaces() {
        PatchBay x = two(4, 4, 3);
        x.stamp(0, 2, 4, 8);
        heads(x, 2, 0);
        x.cable(GATE, 0, 1);
        Due.is("a gate from place 2 to place 0", x.tick(), 1);
        Due.is("written to place 0", x.number(1, 0), 8);
        Due.is("not to place 2", x.number(1, 2), 0);
    }

    /** "PAIR: what the first one did stays, whatever comes". */
    private static void pairKeepsTheFirst() {
        // The second reading, and the second writing, where there is no such cell.
        for (int row = 0; row < 2; row++) {
            PatchBay x = two(4, 4, 3);
            x.stamp(0, 0, 4, 10);
            x.stamp(0, 2, 4, 12);
            int from = row == 0 ? 2 : 0;
            int to = row == 0 ? 0 : 2;
            heads(x, from, to);
            x.cable(PAIR, 0, 1);
            x.patience(0, 2);
            Due.is("the second is refused", x.tick(), 0);
            Due.is("the first stays", x.number(1, to), row == 0 ? 12 : 10);
            cableIs("refused once", x, 0, 1, 1, 0, 0);
            faultIs("one fault", x, 0, 1, 0, INDEX);
            Due.is("one fault alone", x.count(2), 1);
        }
        PatchBay x = two(8, 9, 2);
        x.tag(0, 0, true);
        x.tag(0, 1, false);
        x.cable(PAIR, 0, 1);
        Due.is("the second is not taken", x.tick(), 0);
        Due.is("the first stays", x.number(1, 0), 1);
        faultIs("not taken", x, 0, 1, 0, KIND);
    }

    /** "The first REFUSAL ends it": a pair whose first is refused carries no second. */
    private static void pairRefusedTwice() {
        PatchBay x = two(4, 4, 3);
        x.stamp(0, 0, 4, 10);
        heads(x, -1, 0);
        x.cable(PAIR, 0, 1);
        Due.is("the first is refused", x.tick(), 0);
        Due.is("the second is not carried", x.number(1, 1), 0);
        Due.is("one refusal", x.count(5), 1);
        x = two(8, 9, 2);
        x.tag(0, 0, false);
        x.tag(0, 1, true);
        x.cable(PAIR, 0, 1);
        Due.is("the first is not taken", x.tick(), 0);
        Due.is("the second is not carried", x.kind(1, 1), 11);
        Due.is("one refusal", x.count(4), 1);
    }

    private static void pairBesideTheEnd() {
        PatchBay x = two(4, 4, 2);
        x.stamp(0, 0, 4, 1);
        x.stamp(0, 1, 4, 2);
        x.cable(PAIR, 0, 1);
        Due.is("the last two cells", x.tick(), 1);
        Due.is("the first", x.number(1, 0), 1);
        Due.is("the second", x.number(1, 1), 2);
        x.plugIn(0);
        heads(x, MOST, MOST);
        x.tick();
        faultIs("the most int", x, 0, 2, 0, INDEX);
        Due.is("as it was", x.number(1, 0), 1);
        x.plugIn(0);
        heads(x, LEAST, 0);
        x.tick();
        faultIs("the least int", x, 0, 3, 0, INDEX);
        x = new PatchBay();
        x.tape(0, 4, 3);
        x.stamp(0, 0, 4, 5);
        x.share(1, 0);
        x.head(1, 1);
        x.cable(PAIR, 0, 1);
        Due.is("on one tape", x.tick(), 1);
        Due.is("the second reads what the first wrote", x.number(0, 2), 5);
    }

    /** "FROM a channel TO a channel (perhaps the same)". */
    private static void swapInOneCell() {
        PatchBay x = two(4, 4, 2);
        x.stamp(0, 1, 4, 7);
        x.head(0, 1);
        for (int kind = 0; kind < 4; kind++) {
            x.cable(kind, 0, 0);
        }
        Due.is("pair alone leaves the tape", x.tick(), 3);
        Due.is("as it was", x.number(0, 1), 7);
        Due.is("as it was", x.number(0, 0), 0);
        faultIs("the pair", x, 0, 1, PAIR, INDEX);
    }

    /** "If that is refused, y of TO has its CELL again", at heads that are unlike. */
    private static void swapGivesBack() {
        PatchBay x = two(1, 4, 3);
        for (int i = 0; i < 3; i++) {
            x.stamp(0, i, 1, 10 + i);
            x.stamp(1, i, 4, 20 + i);
        }
        heads(x, 2, 0);
        x.cable(SWAP, 0, 1);
        Due.is("the second write is refused", x.tick(), 0);
        for (int i = 0; i < 3; i++) {
            Due.is("from, place " + i, x.number(0, i), 10 + i);
            Due.is("to, place " + i, x.number(1, i), 20 + i);
        }
        cableIs("out", x, 0, 0, 1, 0, 0);
        x = two(9, 8, 3);
        x.tag(0, 2, true);
        x.tag(1, 0, false);
        x.tag(1, 2, true);
        heads(x, 2, 0);
        x.cable(SWAP, 0, 1);
        Due.is("a tag to seals", x.tick(), 0);
        Due.is("it has its tag again", x.kind(1, 0), 8);
        Due.is("of the same number", x.number(1, 0), 2);
        Due.is("another place is left", x.number(1, 2), 3);
        Due.is("the seal is where it was", x.number(0, 2), 1);
    }

    /** "READ x of FROM, READ y of TO; WRITE": the refusals in this order. */
    private static void swapOrder() {
        PatchBay x = new PatchBay();
        x.plug(1);
        x.cable(SWAP, 0, 1);
        x.patience(0, 9);
        x.tick();
        faultIs("FROM has nothing, TO a plug", x, 0, 1, 0, NULL);
        x.tape(0, 5, 1);
        heads(x, 1, 0);
        x.tick();
        faultIs("FROM has no such cell, TO a plug", x, 0, 2, 0, INDEX);
        heads(x, 0, 0);
        x.tick();
        faultIs("TO has a plug", x, 0, 3, 0, KIND);
        x.strip(1);
        heads(x, 0, 0);
        x.tick();
        faultIs("TO has nothing", x, 0, 4, 0, NULL);
        x.tape(1, 4, 1);
        heads(x, 0, 1);
        x.tick();
        faultIs("TO has no such cell", x, 0, 5, 0, INDEX);
        heads(x, 0, 0);
        x.tick();
        faultIs("TO takes it not", x, 0, 6, 0, KIND);
        x.tape(0, 8, 1);
        heads(x, 0, 1);
        x.tick();
        faultIs("an empty cell to ints, but TO is read first", x, 0, 7, 0, INDEX);
        cableIs("refused each time", x, 0, 1, 7, 0, 0);
        Due.is("each counted once", x.count(3) + x.count(4) + x.count(5), 7);
    }

    /** "STRIKES are 1 more, and if they are its PATIENCE, it is OUT", of each patience. */
    private static void patienceOfEach() {
        for (int patience = 1; patience <= 9; patience++) {
            PatchBay x = new PatchBay();
            x.cable(WIRE, 0, 1);
            x.patience(0, patience);
            for (int strike = 1; strike <= patience; strike++) {
                Due.is("in before strike " + strike, x.told(0, 3), 1);
                x.tick();
                Due.is("strikes", x.told(0, 5), strike);
            }
            cableIs("out", x, 0, 0, patience, 0, 0);
            x.tick();
            cableIs("out for good", x, 0, 0, patience, 0, 0);
            Due.is("faults", x.count(2), patience);
            Due.is("patience stays", x.told(0, 4), patience);
        }
    }

    /** "(STRIKES stay, whatever they are.)" They may be as many as a new patience, or more. */
    private static void patienceMadeLess() {
        for (int less = 1; less <= 3; less++) {
            PatchBay x = new PatchBay();
            x.cable(WIRE, 0, 1);
            x.patience(0, 9);
            for (int strike = 1; strike <= 3; strike++) {
                x.tick();
            }
            Due.is("the one before", x.patience(0, less), 9);
            cableIs("less than or like its strikes", x, 0, 1, 3, 0, 0);
            x.tick();
            cableIs("4 strikes are no patience of " + less, x, 0, 1, 4, 0, 0);
            x.patience(0, 5);
            x.tick();
            cableIs("5 are one of 5", x, 0, 0, 5, 0, 0);
        }
    }

    /** "If it was not refused, STRIKES are 0": nor was one that was shut. */
    private static void shutEndsStrikes() {
        PatchBay x = two(4, 4, 2);
        x.cable(GATE, 0, 1);
        x.patience(0, 2);
        x.head(0, 2);
        x.tick();
        cableIs("refused", x, 0, 1, 1, 0, 0);
        x.head(0, 0);
        x.tick();
        cableIs("shut", x, 0, 1, 0, 0, 1);
        x.head(0, 2);
        x.tick();
        cableIs("refused anew", x, 0, 1, 1, 0, 1);
        x.tick();
        cableIs("out", x, 0, 0, 2, 0, 1);
    }

    private static void carriedEndsStrikes() {
        PatchBay x = two(4, 4, 2);
        x.cable(WIRE, 0, 1);
        x.patience(0, 3);
        x.head(0, 2);
        x.tick();
        x.tick();
        cableIs("refused twice", x, 0, 1, 2, 0, 0);
        heads(x, 0, 0);
        x.tick();
        cableIs("carried", x, 0, 1, 0, 1, 0);
        x.head(0, 2);
        x.tick();
        x.tick();
        cableIs("refused twice anew", x, 0, 1, 2, 1, 0);
        x.tick();
        cableIs("out", x, 0, 0, 3, 1, 0);
    }

    /** "It is IN, with no STRIKES": all else of it stays. */
    private static void plugInBeginsAnew() {
        PatchBay x = two(4, 4, 2);
        x.cable(GATE, 0, 1);
        x.patience(0, 2);
        x.stamp(0, 1, 4, 1);
        for (int i = 0; i < 4; i++) {
            x.tick();
        }
        cableIs("shut, carried, refused, refused", x, 0, 0, 2, 1, 1);
        Due.is("it was out", x.plugIn(0), 0);
        cableIs("in again", x, 0, 1, 0, 1, 1);
        Due.is("its patience stays", x.told(0, 4), 2);
        x.tick();
        cableIs("refused once more", x, 0, 1, 1, 1, 1);
        Due.is("it was in", x.plugIn(0), 1);
        cableIs("in as it was", x, 0, 1, 0, 1, 1);
        x.pull(0);
        cableIs("pulled", x, 0, 0, 0, 1, 1);
    }

    /** "How many CABLES were CARRIED (not those that were SHUT)": 24 at most. */
    private static void countsOfATick() {
        PatchBay x = two(4, 4, 32);
        x.stamp(0, 0, 4, 1);
        for (int i = 0; i < 24; i++) {
            x.cable(i % 4, 0, 1);
        }
        Due.is("all of them", x.tick(), 24);
        // Gates are shut at 0, and pairs refused at the end.
        heads(x, 31, 31);
        Due.is("wires and swaps", x.tick(), 12);
        Due.is("shut", x.told(1, 7), 1);
        Due.is("refused", x.told(2, 3), 0);
        heads(x, 1, 1);
        Due.is("wires and swaps", x.tick(), 12);
        heads(x, 0, 0);
        Due.is("all but the pairs", x.tick(), 18);
    }

    /** "Its HEAD is its STEP more (going round)", of each step. */
    private static void stepsGoRound() {
        for (int step = -3; step <= 3; step++) {
            PatchBay x = new PatchBay();
            int[] heads = {0, 1, -1, LEAST, LEAST + 1, LEAST + 2, MOST, MOST - 1, MOST - 2};
            for (int channel = 0; channel < heads.length; channel++) {
                x.head(channel, heads[channel]);
                x.step(channel, step);
            }
            x.tick();
            for (int channel = 0; channel < heads.length; channel++) {
                long place = (long) heads[channel] + step;
                long round = place > MOST ? place - (1L << 32) : place < LEAST ? place + (1L << 32) : place;
                Due.is(heads[channel] + " and a step of " + step, x.of(channel, 0), round);
            }
            Due.is("no fault", x.count(2), 0);
        }
    }

    /** "Of a LOOP it is then brought into 0 .. n - 1 by whole multiples of n". */
    private static void loopsAreBroughtIn() {
        for (int n : new int[] {1, 2, 3, 7, 31, 32}) {
            for (int head = -2 * n - 3; head <= 2 * n + 3; head += n < 7 ? 1 : 3) {
                PatchBay x = new PatchBay();
                x.tape(15, 9, n);
                x.loop(15, true);
                x.head(15, head);
                int step = head & 3;
                x.step(15, -step);
                x.tick();
                int place = head - step;
                while (place < 0) place += n;
                while (place >= n) place -= n;
                Due.is(head + " of " + n + " by " + -step, x.of(15, 0), place);
            }
        }
        PatchBay x = new PatchBay();
        x.tape(0, 4, 3);
        x.loop(0, true);
        int[] round = {1, 2, 0, 1, 2, 0};
        for (int due : round) {
            x.tick();
            Due.is("round and round", x.of(0, 0), due);
        }
        x.step(0, 0);
        x.head(0, 7);
        x.tick();
        Due.is("a step of 0 brings it in, too", x.of(0, 0), 1);
        x.loop(0, false);
        x.step(0, 3);
        x.tick();
        Due.is("no loop any more", x.of(0, 0), 4);
    }

    /** "(Going round) .. then brought into": beyond an int comes first. */
    private static void loopsGoRoundFirst() {
        PatchBay x = new PatchBay();
        int[][] rows = {{MOST, 1, 7}, {MOST - 1, 3, 7}, {LEAST, -1, 7}, {LEAST + 2, -3, 5}, {MOST, 0, 10},
            {LEAST, 0, 10}, {MOST, 3, 32}};
        for (int channel = 0; channel < rows.length; channel++) {
            x.tape(channel, 4, rows[channel][2]);
            x.loop(channel, true);
            x.head(channel, rows[channel][0]);
            x.step(channel, rows[channel][1]);
        }
        x.tick();
        for (int channel = 0; channel < rows.length; channel++) {
            int[] row = rows[channel];
            long round = (long) row[0] + row[1];
            if (round > MOST) round -= 1L << 32;
            if (round < LEAST) round += 1L << 32;
            Due.is("from " + row[0] + " by " + row[1], x.of(channel, 0), (round % row[2] + row[2]) % row[2]);
        }
    }

    /** "NULL, KIND, ZERO: a FAULT is noted, and the HEAD is as it was". */
    private static void loopRefusals() {
        PatchBay x = new PatchBay();
        x.plug(1);
        x.tape(2, 10, 0);
        int[] refusals = {NULL, KIND, ZERO};
        for (int channel = 0; channel < 3; channel++) {
            x.loop(channel, true);
            x.head(channel, -5);
            x.step(channel, channel);
        }
        // No loops: they move, whatever they have.
        x.plug(4);
        x.tape(5, 4, 0);
        Due.is("no cable", x.tick(), 0);
        for (int channel = 0; channel < 3; channel++) {
            Due.is("as it was", x.of(channel, 0), -5);
            faultIs("loop " + channel, x, 2 - channel, 1, 100 + channel, refusals[channel]);
            Due.is("counted", x.count(2 + refusals[channel]), 1);
        }
        for (int channel = 3; channel < 16; channel++) {
            Due.is("no loop " + channel, x.of(channel, 0), 1);
        }
        Due.is("three faults", x.count(2), 3);
        x.tape(0, 4, 4);
        x.tick();
        Due.is("moves again from where it was", x.of(0, 0), 3);
        Due.is("two faults more", x.count(2), 5);
    }

    /** Channels that have the same tape have a head and a step each. */
    private static void loopsOfOneTape() {
        PatchBay x = new PatchBay();
        x.tape(0, 4, 4);
        for (int channel = 1; channel < 4; channel++) {
            x.share(channel, 0);
            x.step(channel, -channel);
            x.loop(channel, true);
        }
        for (int i = 0; i < 5; i++) {
            x.tick();
        }
        int[] heads = {5, 3, 2, 1};
        for (int channel = 0; channel < 4; channel++) {
            Due.is("head of " + channel, x.of(channel, 0), heads[channel]);
        }
    }

    /** "Then each channel, by numbers, MOVES": faults of loops come after those of cables. */
    private static void loopAfterCables() {
        PatchBay x = new PatchBay();
        x.loop(0, true);
        x.loop(15, true);
        x.cable(WIRE, 1, 0);
        x.cable(SWAP, 0, 1);
        x.tick();
        faultIs("the first cable", x, 3, 1, 0, NULL);
        faultIs("the second cable", x, 2, 1, 1, NULL);
        faultIs("the first channel", x, 1, 1, 100, NULL);
        faultIs("the last channel", x, 0, 1, 115, NULL);
        Due.is("no more", x.fault(4, 0), -1);
    }

    /** "The latest 20 are kept, all are counted": 40 in one tick. */
    private static void fortyFaults() {
        PatchBay x = new PatchBay();
        for (int cable = 0; cable < 24; cable++) {
            x.cable(WIRE, 0, 1);
            x.patience(cable, 2);
        }
        for (int channel = 0; channel < 16; channel++) {
            x.loop(channel, true);
        }
        x.tick();
        Due.is("all are counted", x.count(2), 40);
        Due.is("by their refusal, too", x.count(3), 40);
        for (int i = 0; i < 20; i++) {
            faultIs("fault " + i, x, i, 1, i < 16 ? 115 - i : 39 - i, NULL);
        }
        Due.is("no more are kept", x.fault(20, 0), -1);
        x.tick();
        Due.is("all are counted", x.count(2), 80);
        faultIs("the oldest that is kept", x, 19, 2, 20, NULL);
        x.tick();
        Due.is("the cables are out", x.count(2), 96);
        faultIs("a channel of this tick", x, 15, 3, 100, NULL);
        faultIs("a channel of the tick before", x, 16, 2, 115, NULL);
    }

    /** why() tells of calls alone. */
    private static void whyIsLeft() {
        PatchBay x = new PatchBay();
        x.cable(WIRE, 0, 1);
        x.loop(3, true);
        x.tick();
        Due.is("none at first", x.why(), 0);
        x.tape(0, 4, -1);
        x.tick();
        Due.is("as it was", x.why(), 5);
    }
}
