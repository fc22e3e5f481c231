/** Edges that single promises name: full, empty, wrap-around, itself, and a run of 512 calls. */
public final class EdgesTest {
    private static final int REFUSED_BEFORE = Laid.WHY;

    public static void main(String[] args) {
        tapeInPlaceOfAnything();
        ownShare();
        tagsAndSealsInOneRow();
        tagsFull();
        tagsFullOfRefused();
        cablesFull();
        unrackOfNoCells();
        unrackOfItself();
        spliceOfNone();
        spliceOfMost();
        spliceInOneTape();
        spliceStopsOnce();
        dubOfNone();
        dubOfMost();
        dubIsAnotherTape();
        sumGoesRound();
        matchOfNone();
        matchOfMost();
        matchAtTheEnd();
        whyOfEachCall();
        whyIsLeftByOthers();
        countOfEachRefusal();
        longestRun();
        Due.close();
    }

    private static void longs(PatchBay x, int channel, long... numbers) {
        x.tape(channel, 5, numbers.length);
        for (int i = 0; i < numbers.length; i++) {
            x.stamp(channel, i, 5, numbers[i]);
        }
    }

    /** 2, 3, 4: whatever the channel had before. */
    private static void tapeInPlaceOfAnything() {
        PatchBay x = new PatchBay();
        x.plug(0);
        Due.is("2 in place of a plug", x.tape(0, 4, 1), 1);
        Due.is("2 has a tape", x.of(0, 3), 1);
        x.stamp(0, 0, 4, 6);
        Due.is("2 in place of a tape", x.tape(0, 4, 1), 1);
        Due.is("2 a new one", x.number(0, 0), 0);
        Due.is("2 of no cells is a tape, too", x.tape(0, 4, 0), 0);
        Due.is("2 has a tape", x.of(0, 3), 1);
        Due.is("3 had a tape of no cells", x.plug(0), 1);
        Due.is("2 SIZE leaves the plug", x.tape(0, 4, -1), -15);
        Due.is("4 had a plug", x.strip(0), 2);
        Due.is("2 OUTSIDE leaves nothing", x.tape(0, 4, 33), -1);
        Due.is("4 had nothing", x.strip(0), 0);
    }

    private static void ownShare() {
        PatchBay x = new PatchBay();
        Due.is("5 nothing with itself", x.share(0, 0), 0);
        x.plug(0);
        Due.is("5 a plug with itself", x.share(0, 0), 2);
        x.tape(0, 4, 1);
        x.stamp(0, 0, 4, 3);
        Due.is("5 a tape with itself", x.share(0, 0), 1);
        Due.is("5 as it was", x.number(0, 0), 3);
        x.plug(1);
        x.share(2, 1);
        x.strip(1);
        Due.is("5 a plug stays when the other is stripped", x.of(2, 3), 2);
    }

    /** "They are numbered 1, 2, .. as they are made". */
    private static void tagsAndSealsInOneRow() {
        PatchBay x = new PatchBay();
        x.tape(0, 8, 1);
        x.tape(1, 9, 1);
        Due.is("11 the first", x.tag(0, 0, true), 1);
        Due.is("11 a refused one", x.tag(1, 0, false), -12);
        Due.is("11 another refused one", x.tag(1, 1, true), -13);
        Due.is("11 to nothing", x.tag(2, 0, true), -11);
        Due.is("11 OUTSIDE", x.tag(-1, 0, true), -1);
        Due.is("11 the fifth", x.tag(1, 0, true), 5);
        Due.is("11 the sixth, to the same cell", x.tag(1, 0, true), 6);
        Due.is("11 its number", x.number(1, 0), 6);
        Due.is("11 no number comes again", x.tag(0, 0, false), 7);
    }

    /** "FULL: 200 were made": the 200th is made, the 201st is not. */
    private static void tagsFull() {
        PatchBay x = new PatchBay();
        x.tape(0, 8, 2);
        for (int i = 1; i <= 200; i++) {
            Due.is("11 tag " + i, x.tag(0, 0, i == 200), i);
        }
        Due.is("11 the 201st", x.tag(0, 0, false), -2);
        Due.is("11 a seal, too", x.tag(0, 0, true), -2);
        Due.is("11 the 200th is there", x.number(0, 0), 200);
        Due.is("11 a seal", x.kind(0, 0), 9);
        Due.is("11 another cell is empty", x.kind(0, 1), 11);
        Due.is("11 full", x.tag(0, 1, false), -2);
        Due.is("11 still empty", x.kind(0, 1), 11);
    }

    /** "With a REFUSAL it is made, too": 200 refused ones are as many, and FULL comes first then. */
    private static void tagsFullOfRefused() {
        PatchBay x = new PatchBay();
        x.tape(0, 8, 1);
        for (int i = 1; i <= 200; i++) {
            x.tag(1, 0, false);
        }
        Due.is("11 all refused", x.count(3), 200);
        Due.is("11 FULL before NULL", x.tag(1, 0, false), -2);
        Due.is("11 FULL before INDEX", x.tag(0, 1, false), -2);
        Due.is("11 FULL", x.tag(0, 0, false), -2);
        Due.is("11 OUTSIDE before FULL", x.tag(16, 0, false), -1);
        Due.is("11 FULL is not counted", x.count(3) + x.count(5), 200);
        Due.is("11 FULL leaves why", x.why(), 1);
        Due.is("11 FULL writes nothing", x.kind(0, 0), 11);
    }

    /** "24 at most": the 24th is made, the 25th is not. */
    private static void cablesFull() {
        PatchBay x = new PatchBay();
        for (int i = 0; i < 24; i++) {
            Due.is("28 no such cable yet", x.told(i, 0), -1);
            Due.is("15 no such cable yet", x.patience(i, 2), -1);
            Due.is("16 no such cable yet", x.pull(i), -1);
            Due.is("17 no such cable yet", x.plugIn(i), -1);
            Due.is("14 cable " + i, x.cable(i % 4, i % 16, 15 - i % 16), i);
            Due.is("30 cables", x.count(0), i + 1);
        }
        Due.is("14 the 25th", x.cable(0, 0, 0), -2);
        Due.is("14 OUTSIDE before FULL", x.cable(4, 0, 0), -1);
        Due.is("14 OUTSIDE before FULL", x.cable(0, 16, 0), -1);
        Due.is("14 OUTSIDE before FULL", x.cable(0, 0, -1), -1);
        Due.is("30 cables", x.count(0), 24);
        Due.is("28 no cable 24", x.told(24, 0), -1);
        for (int i = 0; i < 24; i++) {
            int[] due = {i % 4, i % 16, 15 - i % 16, 1, 1, 0, 0, 0};
            for (int what = 0; what < due.length; what++) {
                Due.is("28 cable " + i + " told " + what, x.told(i, what), due[what]);
            }
        }
    }

    /** 13: a tape of no cells is not nothing, though both answer 0. */
    private static void unrackOfNoCells() {
        PatchBay x = new PatchBay();
        x.tape(0, 10, 2);
        x.tape(1, 4, 0);
        x.rack(0, 0, 1);
        Due.is("13 a tape of no cells", x.unrack(0, 0, 2), 0);
        Due.is("13 has a tape", x.of(2, 3), 1);
        Due.is("13 of no cells", x.cells(2), 0);
        Due.is("13 an empty cell", x.unrack(0, 1, 2), 0);
        Due.is("13 has nothing", x.of(2, 3), 0);
        x.tape(1, 4, 32);
        x.rack(0, 0, 1);
        Due.is("13 most cells", x.unrack(0, 0, 2), 32);
        Due.is("13 the same tape", x.match(1, 2), -33);
    }

    private static void unrackOfItself() {
        PatchBay x = new PatchBay();
        x.tape(0, 10, 2);
        x.tape(1, 4, 3);
        x.rack(0, 0, 1);
        x.share(2, 0);
        Due.is("13 its own cell", x.unrack(0, 0, 0), 3);
        Due.is("13 the other has the rack still", x.number(2, 0), 3);
        Due.is("13 its own empty cell", x.unrack(2, 1, 2), 0);
        Due.is("13 has nothing", x.of(2, 3), 0);
        x.tape(3, 10, 1);
        Due.is("12 a rack into itself", x.rack(3, 0, 3), -12);
        x.tape(4, 4, 1);
        Due.is("12 ints into themselves", x.rack(4, 0, 4), -12);
    }

    /** "n (0 .. 32) CELLS": none are read, so none can be refused. */
    private static void spliceOfNone() {
        PatchBay x = new PatchBay();
        x.tape(0, 4, 2);
        x.plug(1);
        int[][] rows = {{0, 0, 0, 0}, {0, -1, 0, 9}, {2, 0, 3, 0}, {1, 0, 1, 0},
            {0, Integer.MAX_VALUE, 0, Integer.MIN_VALUE}};
        for (int[] row : rows) {
            x.cells(2);
            Due.is("19 none", x.splice(row[0], row[1], row[2], row[3], 0), 0);
            Due.is("19 no refusal", x.why(), 0);
        }
        Due.is("19 none counted", x.count(3), rows.length);
        Due.is("19 none counted", x.count(4) + x.count(5), 0);
    }

    private static void spliceOfMost() {
        PatchBay x = new PatchBay();
        x.tape(0, 4, 32);
        for (int i = 0; i < 32; i++) {
            x.stamp(0, i, 4, 100 + i);
        }
        x.tape(1, 7, 32);
        Due.is("19 all 32", x.splice(0, 0, 1, 0, 32), 32);
        Due.is("19 no refusal", x.why(), 0);
        Due.is("19 alike", x.match(0, 1), -33);
        Due.is("19 one place on", x.splice(0, 0, 1, 1, 32), 31);
        Due.is("19 INDEX", x.why(), 3);
        Due.is("19 the last one", x.number(1, 31), 130);
        Due.is("19 from the last one on", x.splice(0, 31, 1, 0, 32), 1);
        Due.is("19 INDEX", x.why(), 3);
        Due.is("19 it", x.number(1, 0), 131);
        Due.is("19 beyond the last one", x.splice(0, 32, 1, 0, 32), 0);
        Due.is("19 from before the first", x.splice(0, -1, 1, 0, 32), 0);
        Due.is("19 to before the first", x.splice(0, 0, 1, -1, 32), 0);
        Due.is("19 the most int", x.splice(0, Integer.MAX_VALUE, 1, 0, 32), 0);
        Due.is("19 counted", x.count(5), 6);
    }

    /** "One by one, each as it is then": on one tape, what was written is read again. */
    private static void spliceInOneTape() {
        PatchBay x = new PatchBay();
        longs(x, 0, 1, 2, 3, 4, 5);
        x.share(1, 0);
        Due.is("19 one place on", x.splice(0, 0, 1, 1, 4), 4);
        for (int i = 0; i < 5; i++) {
            Due.is("19 place " + i, x.number(0, i), 1);
        }
        longs(x, 0, 1, 2, 3, 4, 5);
        Due.is("19 two places on, beyond the end", x.splice(0, 0, 0, 2, 5), 3);
        long[] due = {1, 2, 1, 2, 1};
        for (int i = 0; i < 5; i++) {
            Due.is("19 place " + i, x.number(0, i), due[i]);
        }
        longs(x, 0, 1, 2, 3);
        Due.is("19 one place back", x.splice(0, 1, 0, 0, 2), 2);
        Due.is("19 place 0", x.number(0, 0), 2);
        Due.is("19 place 1", x.number(0, 1), 3);
        Due.is("19 place 2", x.number(0, 2), 3);
        Due.is("19 in its place", x.splice(0, 0, 0, 0, 3), 3);
    }

    /** "Up to the first REFUSAL": what comes after it is not written, and one is counted. */
    private static void spliceStopsOnce() {
        PatchBay x = new PatchBay();
        x.tape(0, 8, 4);
        x.tag(0, 0, true);
        x.tag(0, 1, false);
        x.tag(0, 2, false);
        x.tag(0, 3, true);
        x.tape(1, 9, 4);
        Due.is("19 up to the tag", x.splice(0, 0, 1, 0, 4), 1);
        Due.is("19 why", x.why(), 2);
        Due.is("19 one", x.count(4), 1);
        Due.is("19 the first", x.number(1, 0), 1);
        Due.is("19 not the last", x.kind(1, 3), 11);
        Due.is("19 the seal behind it", x.splice(0, 3, 1, 3, 1), 1);
        Due.is("19 no refusal", x.why(), 0);
    }

    /** 20: of no cells, so of none that is not taken. */
    private static void dubOfNone() {
        PatchBay x = new PatchBay();
        for (int kind = 0; kind <= 10; kind++) {
            x.tape(0, kind, 0);
            for (int to = 0; to <= 10; to++) {
                x.strip(1);
                Due.is("20 no cells of " + kind + " to " + to, x.dub(1, 0, to), 0);
                Due.is("20 a tape", x.of(1, 3), 1);
            }
        }
        Due.is("20 its own, of no cells", x.dub(0, 0, 3), 0);
        Due.is("20 no refusal", x.why(), 0);
    }

    private static void dubOfMost() {
        PatchBay x = new PatchBay();
        x.tape(0, 8, 32);
        x.tag(0, 0, true);
        Due.is("20 a seal and 31 empty ones", x.dub(1, 0, 9), 32);
        Due.is("20 the seal", x.kind(1, 0), 9);
        x.tag(0, 31, false);
        Due.is("20 the last one is a tag", x.dub(1, 0, 9), -12);
        Due.is("20 why", x.why(), 2);
        Due.is("20 as it was", x.kind(1, 31), 11);
        Due.is("20 one is counted", x.count(4), 1);
        Due.is("20 to tags", x.dub(1, 0, 8), 32);
        Due.is("20 the tag", x.number(1, 31), 2);
    }

    /** "A new TAPE": those that had the one before keep it. */
    private static void dubIsAnotherTape() {
        PatchBay x = new PatchBay();
        longs(x, 0, 1, 2);
        x.share(1, 0);
        Due.is("20 its own", x.dub(0, 0, 5), 2);
        x.stamp(0, 0, 5, 9);
        Due.is("20 the one before", x.number(1, 0), 1);
        x.plug(2);
        Due.is("20 in place of a plug", x.dub(2, 0, 5), 2);
        Due.is("20 of nothing, its own", x.dub(3, 3, 4), -11);
        x.plug(3);
        Due.is("20 of a plug, its own", x.dub(3, 3, 4), -12);
        Due.is("20 has what it had", x.of(3, 3), 2);
    }

    private static void sumGoesRound() {
        PatchBay x = new PatchBay();
        longs(x, 0, Long.MAX_VALUE, 1);
        Due.is("21 beyond the most long", x.sum(0), Long.MIN_VALUE);
        longs(x, 0, Long.MIN_VALUE, -1);
        Due.is("21 beyond the least long", x.sum(0), Long.MAX_VALUE);
        longs(x, 0, Long.MIN_VALUE, Long.MIN_VALUE);
        Due.is("21 all the way", x.sum(0), 0);
        x.tape(1, 4, 32);
        for (int i = 0; i < 32; i++) {
            x.stamp(1, i, 4, Integer.MAX_VALUE);
        }
        Due.is("21 of ints, beyond an int", x.sum(1), 32L * Integer.MAX_VALUE);
        x.tape(2, 9, 32);
        Due.is("21 of empty ones", x.sum(2), 0);
        x.tape(2, 9, 0);
        Due.is("21 of none", x.sum(2), 0);
        Due.is("21 no refusal", x.why(), 0);
    }

    private static void matchOfNone() {
        PatchBay x = new PatchBay();
        x.tape(0, 4, 0);
        x.tape(1, 10, 0);
        x.tape(2, 4, 1);
        Due.is("22 no cells", x.match(0, 1), -1);
        Due.is("22 itself, of no cells", x.match(0, 0), -1);
        Due.is("22 just the other has one", x.match(0, 2), 0);
        Due.is("22 just the first has one", x.match(2, 0), 0);
        x.tape(3, 8, 1);
        Due.is("22 an empty one and a 0", x.match(2, 3), -2);
    }

    private static void matchOfMost() {
        PatchBay x = new PatchBay();
        x.tape(0, 0, 32);
        x.tape(1, 7, 32);
        x.tape(2, 6, 31);
        Due.is("22 all 32", x.match(0, 1), -33);
        Due.is("22 just the first has the last", x.match(0, 2), 31);
        Due.is("22 just the other has the last", x.match(2, 1), 31);
        x.stamp(1, 31, 7, 1);
        Due.is("22 unlike in the last", x.match(0, 1), 31);
    }

    private static void matchAtTheEnd() {
        PatchBay x = new PatchBay();
        longs(x, 0, 1, 2, 3);
        longs(x, 1, 1, 2);
        Due.is("22 the first that just one has", x.match(0, 1), 2);
        longs(x, 1, 1, 5);
        Due.is("22 the first that is unlike", x.match(0, 1), 1);
        Due.is("22 the other way round", x.match(1, 0), 1);
        longs(x, 1, 1, 5, 4);
        Due.is("22 the first of two", x.match(0, 1), 1);
        longs(x, 0, 1L << 32);
        longs(x, 1, 0);
        Due.is("22 unlike beyond an int", x.match(0, 1), 0);
    }

    /** 23: each of these calls sets why(), to 0 where it has no refusal. */
    private static void whyOfEachCall() {
        String[] calls = {"tape", "stamp", "probe", "tag", "rack", "unrack", "splice", "dub", "sum", "match",
            "number", "kind", "cells"};
        int[][] good = {{15, 0, 0}, {0, 0, 4}, {0, 0, 4}, {2, 0}, {4, 0, 6}, {4, 1, 0}, {0, 0, 0, 0, 1},
            {0, 0, 4}, {0}, {0, 0}, {0, 0}, {0, 0}, {0}};
        int[][] refused = {{15, 0, -1}, {6, 0, 4}, {6, 0, 4}, {6, 0}, {6, 0, 6}, {6, 1, 0}, {6, 0, 0, 0, 1},
            {0, 6, 4}, {6}, {0, 6}, {6, 0}, {6, 0}, {6}};
        for (int i = 0; i < calls.length; i++) {
            Bay x = Laid.bay();
            Due.is("23 before " + calls[i], x.named("why", 0), REFUSED_BEFORE);
            x.named(calls[i], 0, good[i]);
            Due.is("23 none of " + calls[i], x.named("why", 0), 0);
            Due.is("23 asked again", x.named("why", 0), 0);
            x.named(calls[i], 0, refused[i]);
            Due.is("23 one of " + calls[i], x.named("why", 0), i == 0 ? 5 : 1);
            Due.is("23 asked again", x.named("why", 0), i == 0 ? 5 : 1);
        }
    }

    private static void whyIsLeftByOthers() {
        String[] calls = {"plug", "strip", "share", "head", "step", "loop", "cable", "patience", "pull", "plugIn",
            "tick", "of", "told", "fault", "count"};
        for (String call : calls) {
            Bay x = Laid.bay();
            x.named(call, 1, 0, 1, 1);
            Due.is("23 left by " + call, x.named("why", 0), REFUSED_BEFORE);
        }
    }

    /** 30: each refusal of a call is counted once, by its kind, and OUTSIDE and FULL are not. */
    private static void countOfEachRefusal() {
        PatchBay x = new PatchBay();
        x.plug(1);
        x.tape(2, 4, 1);
        for (int i = 1; i <= 3; i++) {
            x.cells(0);
            x.cells(1);
            x.number(2, 1);
            x.tape(2, 4, -1);
            x.cells(16);
            x.tape(2, 4, 33);
            x.number(-1, 0);
            x.match(0, 99);
            int[] due = {0, 0, 0, i, i, i, 0, i};
            for (int what = 0; what < due.length; what++) {
                Due.is("30 count " + what, x.count(what), due[what]);
            }
        }
        x.loop(0, true);
        x.tick();
        Due.is("30 by a tick, too", x.count(3), 4);
        Due.is("30 faults are those of ticks alone", x.count(2), 1);
    }

    /** "An object is used for at most 512 calls": all of them answer. */
    private static void longestRun() {
        PatchBay x = new PatchBay();
        for (int i = 0; i < 24; i++) {
            x.cable(i % 4, i % 16, (i + 1) % 16);
            x.patience(i, 9);
        }
        for (int i = 48; i < 511; i++) {
            x.tick();
        }
        Due.is("the 512th call", x.count(1), 463);
        x = new PatchBay();
        x.tape(0, 10, 32);
        for (int i = 1; i < 511; i++) {
            Due.is("a new tape", x.dub(0, 0, 10), 32);
        }
        Due.is("the 512th call", x.cells(0), 32);
    }
}
