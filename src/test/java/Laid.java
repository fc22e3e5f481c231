import java.util.ArrayList;
import java.util.List;

/** A patch bay with something of everything, and a view of all that it tells. */
final class Laid {
    /** What why() tells of a bay that was laid out; no call but tape() meets it. */
    static final int WHY = 5;
    static final int CABLES = 3;
    static final int INTS = 0, BYTES = 1, TAGS = 2, SEALS = 3, RACK = 4, PLUG = 5, NOTHING = 6, SAME_INTS = 7;
    static final int NO_CELLS = 8, DOUBLES = 9;
    /** Where the counts stand in a view: why() first, then count(0) and on. */
    static final int COUNTS = 1;

    private Laid() {
    }

    static Bay bay() {
        Bay x = new ClassBay();
        int[][] tapes = {{INTS, 4, 3}, {BYTES, 1, 2}, {TAGS, 8, 3}, {SEALS, 9, 2}, {RACK, 10, 2},
            {NO_CELLS, 4, 0}, {DOUBLES, 7, 2}};
        for (int[] tape : tapes) {
            x.named("tape", 0, tape);
        }
        x.named("stamp", 5, INTS, 0, 4);
        x.named("stamp", -7, INTS, 2, 4);
        x.named("stamp", 100, BYTES, 1, 1);
        x.named("tag", 0, TAGS, 0);
        x.named("tag", 1, TAGS, 1);
        x.named("tag", 1, SEALS, 0);
        x.named("rack", 0, RACK, 0, INTS);
        x.named("plug", 0, PLUG);
        x.named("share", 0, SAME_INTS, INTS);
        x.named("stamp", Long.MAX_VALUE, DOUBLES, 1, 7);
        x.named("head", 0, BYTES, 1);
        x.named("head", 0, NOTHING, -8);
        x.named("step", 0, BYTES, -2);
        x.named("loop", 1, NO_CELLS);
        x.named("cable", 0, 0, INTS, BYTES);
        x.named("cable", 0, 1, INTS, SAME_INTS);
        x.named("cable", 0, 3, TAGS, SEALS);
        x.named("patience", 0, 2, 7);
        x.named("tick", 0);
        x.named("tick", 0);
        x.named("tape", 0, NOTHING, 0, -1);
        return x;
    }

    /** All that is told; the last call of a view makes a tag, which tells how many were made. */
    static List<Long> view(Bay x) {
        List<Long> seen = new ArrayList<>();
        seen.add(x.named("why", 0));
        addParts(seen, x, "count", 8);
        for (int channel = 0; channel < 16; channel++) {
            addParts(seen, x, "of", 4, channel);
            if (x.named("of", 0, channel, 3) == 1) {
                addCells(seen, x, channel);
            }
        }
        for (int cable = 0; cable < CABLES; cable++) {
            addParts(seen, x, "told", 8, cable);
        }
        for (int fault = 0; fault < 5; fault++) {
            addParts(seen, x, "fault", 3, fault);
        }
        seen.add(x.named("tag", 0, TAGS, 0));
        return seen;
    }

    private static void addParts(List<Long> seen, Bay x, String call, int parts, int... of) {
        for (int what = 0; what < parts; what++) {
            seen.add(of.length == 0 ? x.named(call, 0, what) : x.named(call, 0, of[0], what));
        }
    }

    private static void addCells(List<Long> seen, Bay x, int channel) {
        long cells = x.named("cells", 0, channel);
        seen.add(cells);
        for (int i = 0; i < cells; i++) {
            seen.add(x.named("number", 0, channel, i));
            seen.add(x.named("kind", 0, channel, i));
        }
    }
}
