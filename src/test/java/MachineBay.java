import java.lang.reflect.Array;
import java.util.ArrayList;
import java.util.List;

/**
 * A patch bay written a second time, in another way: its tapes are arrays of the Java machine,
 * its refusals what the machine throws at an act. It is a measure for the class, not a part of it.
 */
final class MachineBay implements Bay {
    private static final Class<?>[] ELEMENTS = {
        boolean.class, byte.class, short.class, char.class, int.class, long.class, float.class,
        double.class, Tag.class, Seal.class, int[].class,
    };
    private static final Class<?>[] BOXES = {
        Boolean.class, Byte.class, Short.class, Character.class, Integer.class, Long.class,
        Float.class, Double.class,
    };
    private static final String PLUG = "a plug";

    private static class Tag {
        final int number;

        Tag(int number) {
            this.number = number;
        }
    }

    private static final class Seal extends Tag {
        Seal(int number) {
            super(number);
        }
    }

    private static final class Shut extends Exception {
        private static final long serialVersionUID = 1;
    }

    /** An act that the machine may refuse. */
    private interface Act {
        long done();
    }

    private final Object[] held = new Object[16];
    private final int[] heads = new int[16];
    private final int[] steps = new int[16];
    private final boolean[] loops = new boolean[16];
    // A cable: its kind, from, to, in, patience, strikes, carried, shut, as told() has them.
    private final List<int[]> cables = new ArrayList<>();
    private final List<int[]> faults = new ArrayList<>();
    private final int[] met = new int[6];
    private int tags = 0;
    private int time = 0;
    private int why = 0;

    MachineBay() {
        java.util.Arrays.fill(steps, 1);
    }

    private static int refusal(RuntimeException thrown) {
        if (thrown instanceof NullPointerException) return 1;
        if (thrown instanceof IllegalArgumentException) return 2;
        if (thrown instanceof ArrayIndexOutOfBoundsException) return 3;
        if (thrown instanceof ArithmeticException) return 4;
        if (thrown instanceof NegativeArraySizeException) return 5;
        throw thrown;
    }

    private long tried(Act act, long base) {
        why = 0;
        try {
            return act.done();
        } catch (RuntimeException thrown) {
            why = refusal(thrown);
            met[why]++;
            return base == 0 ? 0 : base - why;
        }
    }

    private long tried(Act act) {
        return tried(act, -10);
    }

    private static boolean within(int number, int least, int most) {
        return least <= number && number <= most;
    }

    private static boolean channels(int... numbers) {
        for (int number : numbers) {
            if (!within(number, 0, 15)) return false;
        }
        return true;
    }

    private static long numberOf(Object cell) {
        if (cell == null) return 0;
        if (cell instanceof Boolean) return (Boolean) cell ? 1 : 0;
        if (cell instanceof Character) return (Character) cell;
        if (cell instanceof Number) return ((Number) cell).longValue();
        return cell instanceof Tag ? ((Tag) cell).number : Array.getLength(cell);
    }

    private static int kindOf(Object cell) {
        for (int kind = 0; kind < BOXES.length; kind++) {
            if (BOXES[kind].isInstance(cell)) return kind;
        }
        return cell == null ? 11 : cell instanceof Seal ? 9 : cell instanceof Tag ? 8 : 10;
    }

    private int has(int channel) {
        return held[channel] == null ? 0 : held[channel] == PLUG ? 2 : 1;
    }

    private static void put(Object tape, int i, int as, long number) {
        switch (as) {
            case 0: Array.setBoolean(tape, i, number != 0); break;
            case 1: Array.setByte(tape, i, (byte) number); break;
            case 2: Array.setShort(tape, i, (short) number); break;
            case 3: Array.setChar(tape, i, (char) number); break;
            case 4: Array.setInt(tape, i, (int) number); break;
            case 5: Array.setLong(tape, i, number); break;
            case 6: Array.setFloat(tape, i, number); break;
            default: Array.setDouble(tape, i, number); break;
        }
    }

    private static Object got(Object tape, int i, int as) {
        switch (as) {
            case 0: return Array.getBoolean(tape, i);
            case 1: return Array.getByte(tape, i);
            case 2: return Array.getShort(tape, i);
            case 3: return Array.getChar(tape, i);
            case 4: return Array.getInt(tape, i);
            case 5: return Array.getLong(tape, i);
            case 6: return Array.getFloat(tape, i);
            default: return Array.getDouble(tape, i);
        }
    }

    /** The machine widens a primitive cell where the array takes it, and refuses it elsewhere. */
    private static void copy(Object from, int x, Object to, int y) {
        Array.set(to, y, Array.get(from, x));
    }

    private static Object dubbed(Object from, int kind) {
        Object made = Array.newInstance(ELEMENTS[kind], Array.getLength(from));
        for (int i = 0; i < Array.getLength(from); i++) {
            copy(from, i, made, i);
        }
        return made;
    }

    private static long sumOf(Object tape) {
        long sum = 0;
        for (int i = 0; i < Array.getLength(tape); i++) {
            sum += numberOf(Array.get(tape, i));
        }
        return sum;
    }

    private static long unlike(Object one, Object two) {
        int first = Array.getLength(one);
        int second = Array.getLength(two);
        for (int i = 0; i < first || i < second; i++) {
            if (i >= first || i >= second) return i;
            if (numberOf(Array.get(one, i)) != numberOf(Array.get(two, i))) return i;
        }
        return -1 - first;
    }

    private int splice(int channel, int i, int other, int j, int n) {
        int[] written = {0};
        tried(() -> {
            for (; written[0] < n; written[0]++) {
                copy(held[channel], i + written[0], held[other], j + written[0]);
            }
            return 0;
        });
        return written[0];
    }

    private void carry(int[] cable) throws Shut {
        Object from = held[cable[1]];
        Object to = held[cable[2]];
        int x = heads[cable[1]];
        int y = heads[cable[2]];
        if (cable[0] == 3) {
            Object first = Array.get(from, x);
            Object second = Array.get(to, y);
            Array.set(to, y, first);
            try {
                Array.set(from, x, second);
            } catch (IllegalArgumentException thrown) {
                Array.set(to, y, second);
                throw thrown;
            }
            return;
        }
        if (cable[0] == 1 && numberOf(Array.get(from, x)) == 0) throw new Shut();
        copy(from, x, to, y);
        if (cable[0] == 2) copy(from, x + 1, to, y + 1);
    }

    private void fault(int who, RuntimeException thrown) {
        faults.add(0, new int[] {time, who, refusal(thrown)});
        met[refusal(thrown)]++;
    }

    private int tick() {
        time++;
        int carried = 0;
        for (int number = 0; number < cables.size(); number++) {
            int[] cable = cables.get(number);
            if (cable[3] == 0) continue;
            try {
                carry(cable);
                cable[6]++;
                cable[5] = 0;
                carried++;
            } catch (Shut shut) {
                cable[7]++;
                cable[5] = 0;
            } catch (RuntimeException thrown) {
                fault(number, thrown);
                cable[5]++;
                if (cable[5] == cable[4]) cable[3] = 0;
            }
        }
        for (int channel = 0; channel < 16; channel++) {
            try {
                int place = heads[channel] + steps[channel];
                heads[channel] = loops[channel] ? brought(place, Array.getLength(held[channel])) : place;
            } catch (RuntimeException thrown) {
                fault(100 + channel, thrown);
            }
        }
        return carried;
    }

    private static int brought(int place, int n) {
        int rest = place % n;
        return rest < 0 ? rest + n : rest;
    }

    private long unracked(int channel, int i, int other) {
        Object cell = Array.get(held[channel], i);
        if (cell != null && !(cell instanceof int[])) throw new IllegalArgumentException();
        held[other] = cell;
        return numberOf(cell);
    }

    private long hold(int channel, Object what) {
        int had = has(channel);
        held[channel] = what;
        return had;
    }

    private long tagged(int channel, int i, boolean seal) {
        if (tags == 200) return -2;
        tags++;
        Tag made = seal ? new Seal(tags) : new Tag(tags);
        return tried(() -> {
            Array.set(held[channel], i, made);
            return made.number;
        });
    }

    private long cabled(int kind, int from, int to) {
        if (cables.size() == 24) return -2;
        cables.add(new int[] {kind, from, to, 1, 1, 0, 0, 0});
        return cables.size() - 1;
    }

    private long atChannel(String name, int[] a, long last) {
        int c = a[0];
        switch (name) {
            case "plug": return hold(c, PLUG);
            case "strip": return hold(c, null);
            case "head": heads[c] = a[1]; return 1;
            case "loop": {
                boolean was = loops[c];
                loops[c] = last % 2 != 0;
                return was ? 1 : 0;
            }
            case "tag": return tagged(c, a[1], last % 2 != 0);
            case "sum": return tried(() -> sumOf(held[c]), 0);
            case "number": return tried(() -> numberOf(Array.get(held[c], a[1])), 0);
            case "kind": return tried(() -> kindOf(Array.get(held[c], a[1])));
            default: return tried(() -> Array.getLength(held[c]));
        }
    }

    private long atTwo(String name, int[] a) {
        int c = a[0];
        switch (name) {
            case "share": hold(c, held[a[1]]); return has(c);
            case "match": {
                long got = tried(() -> unlike(held[c], held[a[1]]), -110);
                return got;
            }
            case "rack": return tried(() -> {
                Array.set(held[c], a[1], held[a[2]]);
                return 1;
            });
            default: return tried(() -> unracked(c, a[1], a[2]));
        }
    }

    private long atCable(String name, int[] a) {
        int[] cable = cables.get(a[0]);
        int was = cable[3];
        switch (name) {
            case "patience": was = cable[4]; cable[4] = a[1]; return was;
            case "pull": cable[3] = 0; return was;
            case "plugIn": cable[3] = 1; cable[5] = 0; return was;
            default: return cable[a[1]];
        }
    }

    @Override
    public long call(int which, int[] a, long last) {
        String name = CALLS[which];
        switch (name) {
            case "tape":
                if (!channels(a[0]) || !within(a[1], 0, 10) || a[2] > 32) return -1;
                return tried(() -> {
                    held[a[0]] = Array.newInstance(ELEMENTS[a[1]], a[2]);
                    return a[2];
                });
            case "plug": case "strip": case "head": case "loop": case "tag": case "kind": case "cells":
                return channels(a[0]) ? atChannel(name, a, last) : -1;
            case "sum": case "number":
                return channels(a[0]) ? atChannel(name, a, last) : 0;
            case "share":
                return channels(a[0], a[1]) ? atTwo(name, a) : -1;
            case "match":
                return channels(a[0], a[1]) ? atTwo(name, a) : -101;
            case "rack": case "unrack":
                return channels(a[0], a[2]) ? atTwo(name, a) : -1;
            case "step": {
                if (!channels(a[0]) || !within(a[1], -3, 3)) return -1;
                int before = steps[a[0]];
                steps[a[0]] = a[1];
                return before + 3;
            }
            case "stamp":
                if (!channels(a[0]) || !within(a[2], 0, 7)) return -1;
                return tried(() -> {
                    put(held[a[0]], a[1], a[2], last);
                    return 1;
                });
            case "probe":
                if (!channels(a[0]) || !within(a[2], 0, 7)) return 0;
                return tried(() -> numberOf(got(held[a[0]], a[1], a[2])), 0);
            case "cable":
                return within(a[0], 0, 3) && channels(a[1], a[2]) ? cabled(a[0], a[1], a[2]) : -1;
            case "patience":
                return within(a[0], 0, cables.size() - 1) && within(a[1], 1, 9) ? atCable(name, a) : -1;
            case "pull": case "plugIn":
                return within(a[0], 0, cables.size() - 1) ? atCable(name, a) : -1;
            case "told":
                return within(a[0], 0, cables.size() - 1) && within(a[1], 0, 7) ? atCable(name, a) : -1;
            case "tick": return tick();
            case "splice":
                return channels(a[0], a[2]) && within(a[4], 0, 32)
                    ? splice(a[0], a[1], a[2], a[3], a[4]) : -1;
            case "dub":
                if (!channels(a[0], a[1]) || !within(a[2], 0, 10)) return -1;
                return tried(() -> {
                    held[a[0]] = dubbed(held[a[1]], a[2]);
                    return Array.getLength(held[a[0]]);
                });
            case "why": return why;
            case "of": {
                if (!channels(a[0]) || !within(a[1], 0, 3)) return Integer.MIN_VALUE;
                int c = a[0];
                return new int[] {heads[c], steps[c], loops[c] ? 1 : 0, has(c)}[a[1]];
            }
            case "fault":
                return within(a[0], 0, Math.min(20, faults.size()) - 1) && within(a[1], 0, 2)
                    ? faults.get(a[0])[a[1]] : -1;
            default:
                if (!within(a[0], 0, 7)) return -1;
                return a[0] == 0 ? cables.size() : a[0] == 1 ? time : a[0] == 2 ? faults.size() : met[a[0] - 2];
        }
    }
}
