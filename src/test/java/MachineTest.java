/** All promises: the class answers long runs of mixed calls as the Java machine's own arrays do. */
public final class MachineTest {
    private static final int RUNS = 8000;
    // With a why() behind each, and what stateIsSame() asks, a run stays within 512 calls.
    private static final int LEAST_CALLS = 60, MOST_CALLS = 160;
    // Few channels, so that calls meet on them.
    private static final int BUSY_CHANNELS = 5;
    private static final int TAPE = 0, LOOP = 6, STAMP = 7, TAG = 9, RACK = 10, CABLE = 12, PATIENCE = 13;
    private static final int WHY = 21, NUMBER = 22, KIND = 23, OF = 25, FAULT = 27, COUNT = 28;

    private static long seed = 20261119;
    private static String told = "";

    public static void main(String[] args) {
        boolean same = true;
        for (int run = 0; run < RUNS && same; run++) {
            same = runIsSame();
        }
        if (!same) System.out.println(told);
        Due.is("runs that are the same", same ? 1 : 0, 1);
        beyondTheRun();
        Due.close();
    }

    /** A row of numbers that is the same at each start, so that what failed fails again. */
    private static int next(int bound) {
        seed = seed * 6364136223846793005L + 1442695040888963407L;
        return (int) ((seed >>> 33) % bound);
    }

    private static int extreme() {
        int[] all = {Integer.MIN_VALUE, Integer.MAX_VALUE, Integer.MIN_VALUE + 1, -1, 16, 24, 33, 11};
        return all[next(all.length)];
    }

    private static int argument(String call, int at) {
        if (next(40) == 0) return extreme();
        boolean channel = at == 0 && !call.equals("cable")
            || at == 1 && (call.equals("share") || call.equals("dub") || call.equals("match") || call.equals("cable"))
            || at == 2 && (call.equals("rack") || call.equals("unrack") || call.equals("splice") || call.equals("cable"));
        switch (call) {
            case "patience": return at == 0 ? next(5) : next(11);
            case "pull": case "plugIn": return next(5);
            case "told": return at == 0 ? next(25) : next(8);
            case "fault": return at == 0 ? next(22) : next(3);
            case "count": return next(8);
            default: break;
        }
        if (channel) return next(12) == 0 ? next(18) - 1 : next(BUSY_CHANNELS);
        if (call.equals("tape") && at == 1 || call.equals("dub")) return next(11);
        if (call.equals("tape")) return next(20) == 0 ? -1 - next(3) : next(7);
        if (call.equals("stamp") && at == 2 || call.equals("probe") && at == 2) return next(9);
        if (call.equals("step")) return next(9) - 4;
        if (call.equals("cable")) return next(5);
        if (call.equals("of")) return next(5);
        return next(7) - (next(6) == 0 ? 1 : 0);
    }

    private static long number() {
        switch (next(7)) {
            case 0: return 0;
            case 6: {
                // Just beside what lies halfway between two floats, or two doubles.
                int high = 24 + next(39);
                int low = high - (next(2) == 0 || high < 53 ? 24 : 53);
                return (1L << high) + (1L << low) + next(3) - 1;
            }
            case 1: return next(300) - 150;
            case 2: return ((long) next(1 << 30) << 33) + next(1 << 30);
            case 3: return Long.MAX_VALUE - next(3) * (1L << next(45));
            case 4: return (1L << next(63)) + (1L << next(63)) + next(3) - 1;
            default: return -((1L << next(63)) + next(5));
        }
    }

    private static int chosen() {
        // Ticks are rare among so many calls, and much hangs on them.
        return next(7) == 0 ? 16 : next(Bay.CALLS.length);
    }

    private static boolean runIsSame() {
        Bay one = new ClassBay();
        Bay two = new MachineBay();
        if (next(4) > 0 && !laidOut(one, two)) return false;
        int own = LEAST_CALLS + next(MOST_CALLS - LEAST_CALLS);
        for (int i = 0; i < own; i++) {
            int which = chosen();
            int[] a = new int[5];
            for (int at = 0; at < a.length; at++) {
                a[at] = argument(Bay.CALLS[which], at);
            }
            if (!isSame(one, two, which, a, number())) return false;
            if (!isSame(one, two, WHY, a, 0)) return false;
        }
        return stateIsSame(one, two);
    }

    /** Tapes with cells, loops, and cables that last: else most ticks would meet but refusals. */
    private static boolean laidOut(Bay one, Bay two) {
        boolean same = true;
        for (int channel = 0; channel < BUSY_CHANNELS && same; channel++) {
            int kind = next(11);
            same = isSame(one, two, TAPE, new int[] {channel, kind, 1 + next(4)}, 0)
                && isSame(one, two, LOOP, new int[] {channel}, next(4))
                && isSame(one, two, kind < 8 ? STAMP : TAG, new int[] {channel, 0, kind}, number())
                && isSame(one, two, kind < 8 ? STAMP : RACK, new int[] {channel, 1, kind < 8 ? kind : 0}, number());
        }
        for (int cable = 0; cable < 4 && same; cable++) {
            int[] ends = {next(4), next(BUSY_CHANNELS), next(BUSY_CHANNELS)};
            same = isSame(one, two, CABLE, ends, 0)
                && isSame(one, two, PATIENCE, new int[] {cable, 1 + next(9)}, 0);
        }
        return same;
    }

    private static boolean stateIsSame(Bay one, Bay two) {
        for (int i = 0; i < 8; i++) {
            if (!isSame(one, two, COUNT, new int[] {i}, 0)) return false;
        }
        for (int i = 0; i < 60; i++) {
            if (!isSame(one, two, FAULT, new int[] {i / 3, i % 3}, 0)) return false;
        }
        for (int channel = 0; channel < BUSY_CHANNELS; channel++) {
            for (int what = 0; what < 4; what++) {
                if (!isSame(one, two, OF, new int[] {channel, what}, 0)) return false;
            }
            for (int i = 0; i < 6; i++) {
                if (!isSame(one, two, NUMBER, new int[] {channel, i}, 0)) return false;
                if (!isSame(one, two, KIND, new int[] {channel, i}, 0)) return false;
            }
        }
        return true;
    }

    private static boolean isSame(Bay one, Bay two, int which, int[] a, long last) {
        long got = one.call(which, a, last);
        long due = two.call(which, a, last);
        if (got == due) return true;
        told = Bay.CALLS[which] + java.util.Arrays.toString(a) + " " + last + ": answered " + got
            + ", the machine answers " + due;
        return false;
    }

    /** What calls after the 512th answer is free, but none may throw. */
    private static void beyondTheRun() {
        Bay bay = new ClassBay();
        for (int i = 0; i < 300000; i++) {
            int which = next(Bay.CALLS.length);
            int[] a = new int[5];
            for (int at = 0; at < a.length; at++) {
                a[at] = argument(Bay.CALLS[which], at);
            }
            bay.call(which, a, number());
        }
    }
}
