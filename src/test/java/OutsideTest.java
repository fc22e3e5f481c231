import java.util.List;

/** "OUTSIDE: a number is not as told": each argument of each call just beyond its bounds, and far. */
public final class OutsideTest {
    private static final int FREE_LEAST = Integer.MIN_VALUE, FREE_MOST = Integer.MAX_VALUE;

    /** What a call says of its arguments. */
    private static final class Spec {
        final String call;
        final long outside;
        final int[] good;
        final int[][] bounds;

        /** Good arguments, and for each one its least and its most. */
        Spec(String call, long outside, int[] good, int[]... bounds) {
            this.call = call;
            this.outside = outside;
            this.good = good;
            this.bounds = bounds;
        }
    }

    private static final int[] CHANNEL = {0, 15};
    private static final int[] KIND = {0, 10};
    private static final int[] PLAIN = {0, 7};
    private static final int[] CABLE = {0, Laid.CABLES - 1};
    private static final int[] FREE = {FREE_LEAST, FREE_MOST};
    // Fewer than no cells are refused (SIZE), not OUTSIDE.
    private static final int[] CELLS = {FREE_LEAST, 32};

    private static final Spec[] SPECS = {
        new Spec("tape", -1, new int[] {0, 4, 3}, CHANNEL, KIND, CELLS),
        new Spec("plug", -1, new int[] {0}, CHANNEL),
        new Spec("strip", -1, new int[] {0}, CHANNEL),
        new Spec("share", -1, new int[] {1, 0}, CHANNEL, CHANNEL),
        new Spec("head", -1, new int[] {0, 3}, CHANNEL, FREE),
        new Spec("step", -1, new int[] {0, 2}, CHANNEL, new int[] {-3, 3}),
        new Spec("loop", -1, new int[] {0}, CHANNEL),
        new Spec("stamp", -1, new int[] {0, 1, 4}, CHANNEL, FREE, PLAIN),
        new Spec("probe", 0, new int[] {0, 1, 4}, CHANNEL, FREE, PLAIN),
        new Spec("tag", -1, new int[] {2, 2}, CHANNEL, FREE),
        new Spec("rack", -1, new int[] {4, 1, 0}, CHANNEL, FREE, CHANNEL),
        new Spec("unrack", -1, new int[] {4, 0, 1}, CHANNEL, FREE, CHANNEL),
        new Spec("cable", -1, new int[] {0, 0, 1}, new int[] {0, 3}, CHANNEL, CHANNEL),
        new Spec("patience", -1, new int[] {1, 3}, CABLE, new int[] {1, 9}),
        new Spec("pull", -1, new int[] {1}, CABLE),
        new Spec("plugIn", -1, new int[] {0}, CABLE),
        new Spec("splice", -1, new int[] {1, 0, 0, 0, 2}, CHANNEL, FREE, CHANNEL, FREE, new int[] {0, 32}),
        new Spec("dub", -1, new int[] {6, 0, 5}, CHANNEL, CHANNEL, KIND),
        new Spec("sum", 0, new int[] {0}, CHANNEL),
        new Spec("match", -101, new int[] {0, 1}, CHANNEL, CHANNEL),
        new Spec("number", 0, new int[] {0, 0}, CHANNEL, FREE),
        new Spec("kind", -1, new int[] {0, 0}, CHANNEL, FREE),
        new Spec("cells", -1, new int[] {0}, CHANNEL),
        new Spec("of", Integer.MIN_VALUE, new int[] {0, 0}, CHANNEL, new int[] {0, 3}),
        new Spec("told", -1, new int[] {0, 0}, CABLE, new int[] {0, 7}),
        // Of a bay that was laid out, 4 faults are kept.
        new Spec("fault", -1, new int[] {0, 0}, new int[] {0, 3}, new int[] {0, 2}),
        new Spec("count", -1, new int[] {0}, new int[] {0, 7}),
    };

    private static List<Long> before;

    public static void main(String[] args) {
        before = Laid.view(Laid.bay());
        Due.is("faults of a bay that was laid out", before.get(Laid.COUNTS + 2), 4);
        for (Spec spec : SPECS) {
            for (int at = 0; at < spec.bounds.length; at++) {
                beyond(spec, at);
                justWithin(spec, at);
            }
        }
        outsideBeforeRefusals();
        Due.close();
    }

    private static void beyond(Spec spec, int at) {
        int least = spec.bounds[at][0];
        int most = spec.bounds[at][1];
        if (least != FREE_LEAST) {
            outside(spec, at, least - 1);
            outside(spec, at, FREE_LEAST);
        }
        if (most != FREE_MOST) {
            outside(spec, at, most + 1);
            outside(spec, at, FREE_MOST);
        }
    }

    private static int[] with(int[] good, int at, int number) {
        int[] a = good.clone();
        a[at] = number;
        return a;
    }

    /** The answer is as told, and nothing is changed, why() and the counts neither. */
    private static void outside(Spec spec, int at, int number) {
        Bay x = Laid.bay();
        String what = spec.call + ", argument " + at + " is " + number;
        Due.is(what, x.named(spec.call, 1, with(spec.good, at, number)), spec.outside);
        Due.is(what + ": nothing is changed", Laid.view(x).equals(before) ? 1 : 0, 1);
    }

    private static void justWithin(Spec spec, int at) {
        for (int number : spec.bounds[at]) {
            Bay x = Laid.bay();
            String what = spec.call + ", argument " + at + " is " + number;
            long got = x.named(spec.call, 1, with(spec.good, at, number));
            if (spec.outside == 0) {
                // OUTSIDE answers 0 as other calls of it may, but leaves why().
                Due.is(what + ": why", x.named("why", 0) == Laid.WHY ? 1 : 0, 0);
            } else {
                Due.is(what + ": not OUTSIDE", got == spec.outside ? 1 : 0, 0);
            }
        }
    }

    /** Each of these would be refused, too, if its numbers were as told. */
    private static void outsideBeforeRefusals() {
        Bay x = Laid.bay();
        Due.is("tape: KIND before SIZE", x.named("tape", 0, 0, 11, -1), -1);
        Due.is("tape: channel before SIZE", x.named("tape", 0, 16, 4, -1), -1);
        Due.is("stamp", x.named("stamp", 0, Laid.NOTHING, 0, 8), -1);
        Due.is("rack: to a plug", x.named("rack", 0, Laid.PLUG, 0, 16), -1);
        Due.is("rack: of a plug", x.named("rack", 0, 16, 0, Laid.PLUG), -1);
        Due.is("unrack", x.named("unrack", 0, Laid.NOTHING, 0, -1), -1);
        Due.is("splice: n", x.named("splice", 0, Laid.NOTHING, 0, Laid.PLUG, 0, 33), -1);
        Due.is("splice: n", x.named("splice", 0, Laid.NOTHING, 0, Laid.PLUG, 0, -1), -1);
        Due.is("splice: other", x.named("splice", 0, Laid.NOTHING, 0, 16, 0, 1), -1);
        Due.is("dub", x.named("dub", 0, 0, Laid.NOTHING, 11), -1);
        Due.is("match: other", x.named("match", 0, Laid.NOTHING, 16), -101);
        Due.is("match: channel", x.named("match", 0, 16, Laid.NOTHING), -101);
        x.named("probe", 0, Laid.NOTHING, 0, 8);
        Due.is("why is as it was", x.named("why", 0), Laid.WHY);
    }
}
