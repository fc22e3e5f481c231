/** The calls of a patch bay, so that a test can make the same ones on the class and on another. */
interface Bay {
    /** The names of the calls; a call is told by its place here. */
    String[] CALLS = {
        "tape", "plug", "strip", "share", "head", "step", "loop", "stamp", "probe", "tag", "rack",
        "unrack", "cable", "patience", "pull", "plugIn", "tick", "splice", "dub", "sum", "match",
        "why", "number", "kind", "cells", "of", "told", "fault", "count",
    };

    /** The call at a place of CALLS with its arguments in a row, what is not an int from the last. */
    long call(int which, int[] a, long last);

    /** The call of a name; what is left out of its arguments is 0. */
    default long named(String name, long last, int... a) {
        int which = 0;
        while (!CALLS[which].equals(name)) {
            which++;
        }
        return call(which, java.util.Arrays.copyOf(a, 5), last);
    }
}
