/** The class itself, as a Bay. */
final class ClassBay implements Bay {
    private final PatchBay x = new PatchBay();

    @Override
    public long call(int which, int[] a, long last) {
        boolean is = last % 2 != 0;
        switch (CALLS[which]) {
            case "tape": return x.tape(a[0], a[1], a[2]);
            case "plug": return x.plug(a[0]);
            case "strip": return x.strip(a[0]);
            case "share": return x.share(a[0], a[1]);
            case "head": return x.head(a[0], a[1]);
            case "step": return x.step(a[0], a[1]);
            case "loop": return x.loop(a[0], is);
            case "stamp": return x.stamp(a[0], a[1], a[2], last);
            case "probe": return x.probe(a[0], a[1], a[2]);
            case "tag": return x.tag(a[0], a[1], is);
            case "rack": return x.rack(a[0], a[1], a[2]);
            case "unrack": return x.unrack(a[0], a[1], a[2]);
            case "cable": return x.cable(a[0], a[1], a[2]);
            case "patience": return x.patience(a[0], a[1]);
            case "pull": return x.pull(a[0]);
            case "plugIn": return x.plugIn(a[0]);
            case "tick": return x.tick();
            case "splice": return x.splice(a[0], a[1], a[2], a[3], a[4]);
            case "dub": return x.dub(a[0], a[1], a[2]);
            case "sum": return x.sum(a[0]);
            case "match": return x.match(a[0], a[1]);
            case "why": return x.why();
            case "number": return x.number(a[0], a[1]);
            case "kind": return x.kind(a[0], a[1]);
            case "cells": return x.cells(a[0]);
            case "of": return x.of(a[0], a[1]);
            case "told": return x.told(a[0], a[1]);
            case "fault": return x.fault(a[0], a[1]);
            default: return x.count(a[0]);
        }
    }
}
