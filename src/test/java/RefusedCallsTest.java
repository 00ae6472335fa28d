/**
 * "A method that throws an exception changes nothing. If several exceptions apply, the one that is
 * named first is thrown." Each method is called with all its arguments good, too small and too
 * great at once, each time on a new workshop, and in each state that the document refuses.
 */
public final class RefusedCallsTest {
    private static final Class<IndexOutOfBoundsException> PLACE = IndexOutOfBoundsException.class;
    private static final Class<IllegalArgumentException> ARGUMENT = IllegalArgumentException.class;
    private static final Class<IllegalStateException> STATE = IllegalStateException.class;

    private static final int MIN = Integer.MIN_VALUE;
    private static final int MAX = Integer.MAX_VALUE;

    /** What busy() has: canes 0 to 3, slices 0 to 2 and beads 0 and 1. */
    private static final int CANES = 4;
    private static final int SLICES = 3;
    private static final int BEADS = 2;
    private static final int HOT = 0;
    private static final int CRACKED = 1;
    private static final int EMPTY = 2;
    private static final int COLD = 3;

    private static final int[] SOME_CANES = {HOT, CRACKED, EMPTY, COLD, -1, 4, 8, MIN, MAX};
    private static final int[] SOME_RINGS = {0, 2, -1, 3, MIN, MAX};
    private static final int[] SOME_SECTORS = {0, 7, -1, 8, MIN, MAX};
    private static final int[] SOME_SLICES = {0, 2, -1, 3, 60, MIN, MAX};
    private static final int[] SOME_BEADS = {0, 1, -1, 2, 6, MIN, MAX};
    private static final int[] SOME_EYES = {0, 3, -1, 4, MIN, MAX};

    public static void main(String[] args) {
        lay();
        twist();
        pull();
        furnace();
        rest();
        cut();
        cutInEachState();
        caneAndCount();
        shows();
        colourAndWhere();
        set();
        drop();
        seen();
        again();
        turnAndCuts();
        mends();
        beginAndBead();
        Check.finish();
    }

    private static CaneSlices busy() {
        CaneSlices x = new CaneSlices();
        x.begin();
        x.begin();
        x.begin();
        x.rest(5);
        x.pull(CRACKED);
        x.rest(3);
        Workshops.cutOff(x, EMPTY, 1);
        x.begin();
        x.furnace(HOT);
        x.rest(10);
        x.twist(HOT, 3);
        Workshops.cutOff(x, CRACKED, 2);
        x.bead();
        x.bead();
        x.set(0, 0, 0, 5);
        return x;
    }

    /** As busy(), but the cane EMPTY has no length and there are seven slices more. */
    private static CaneSlices busyWithEmptyCane() {
        CaneSlices x = busy();
        Workshops.cutOff(x, EMPTY, 7);
        return x;
    }

    private static boolean in(int number, int least, int most) {
        return number >= least && number <= most;
    }

    /** null if nothing is wrong: then the call has to be answered. */
    private static Class<? extends RuntimeException> first(boolean place, boolean argument, boolean state) {
        if (!place) {
            return PLACE;
        }
        if (!argument) {
            return ARGUMENT;
        }
        return state ? null : STATE;
    }

    private static void look(
            String label, CaneSlices x, Class<? extends RuntimeException> due, Check.Call call) {
        if (due == null) {
            Check.same(label + " is answered", true, () -> call.answer() != null);
        } else {
            Check.refusedUnchanged(label, x, due, call);
        }
    }

    private static void lay() {
        for (int cane : SOME_CANES) {
            for (int ring : SOME_RINGS) {
                for (int sector : SOME_SECTORS) {
                    for (int sectors : new int[] {1, 8, 0, 9, -1, MIN, MAX}) {
                        for (int colour : new int[] {0, 7, -1, 8, MIN, MAX}) {
                            layWith(cane, ring, sector, sectors, colour);
                        }
                    }
                }
            }
        }
    }

    private static void layWith(int cane, int ring, int sector, int sectors, int colour) {
        CaneSlices x = busy();
        boolean argument = in(ring, 0, 2) && in(sector, 0, 7) && in(sectors, 1, 8) && in(colour, 0, 7);
        Class<? extends RuntimeException> due = first(in(cane, 0, CANES - 1), argument, cane != CRACKED);
        String label = "lay " + cane + ", " + ring + ", " + sector + ", " + sectors + ", " + colour;
        look(label, x, due, () -> x.lay(cane, ring, sector, sectors, colour));
    }

    private static void twist() {
        for (int cane : SOME_CANES) {
            for (int by : new int[] {1, 2, 4, -4, -1, 0, 5, -5, MIN, MAX, MIN + 3, MAX - 3}) {
                CaneSlices x = busy();
                boolean fits = cane != CRACKED && (cane != HOT || by < 2);
                Class<? extends RuntimeException> due =
                        first(in(cane, 0, CANES - 1), by != 0 && in(by, -4, 4), fits);
                look("twist " + cane + ", " + by, x, due, () -> x.twist(cane, by));
            }
        }
        CaneSlices both = Workshops.withCanes(1);
        both.twist(0, -4);
        both.rest(10);
        both.pull(0);
        both.furnace(0);
        look("cracked, and too far", both, STATE, () -> both.twist(0, -1));
        CaneSlices cold = Workshops.withCanes(1);
        cold.twist(0, -4);
        cold.rest(10);
        look("too cold, and too far", cold, STATE, () -> cold.twist(0, -1));
    }

    private static void pull() {
        for (int cane : SOME_CANES) {
            CaneSlices x = busyWithEmptyCane();
            Class<? extends RuntimeException> due = first(in(cane, 0, CANES - 1), true, cane != CRACKED);
            look("pull " + cane, x, due, () -> x.pull(cane));
        }
    }

    private static void furnace() {
        for (int cane : new int[] {HOT, CRACKED, EMPTY, COLD, -1, -2, 4, 8, MIN, MAX}) {
            CaneSlices x = busyWithEmptyCane();
            look("furnace " + cane, x, first(in(cane, -1, CANES - 1), true, true), () -> x.furnace(cane));
        }
    }

    private static void rest() {
        for (int minutes : new int[] {1, 60, 0, 61, -1, -60, MIN, MAX}) {
            CaneSlices x = busy();
            look("rest " + minutes, x, first(true, in(minutes, 1, 60), true), () -> x.rest(minutes));
        }
    }

    private static void cut() {
        for (int cane : SOME_CANES) {
            CaneSlices x = busyWithEmptyCane();
            boolean fits = cane == CRACKED || cane == COLD;
            look("cut " + cane, x, first(in(cane, 0, CANES - 1), true, fits), () -> x.cut(cane));
        }
    }

    /** Each of the three things that refuse a cut, alone and with the others. */
    private static void cutInEachState() {
        for (int states = 0; states < 8; states++) {
            boolean hot = (states & 1) != 0;
            boolean empty = (states & 2) != 0;
            boolean full = (states & 4) != 0;
            CaneSlices x = Workshops.withCanes(8);
            x.rest(10);
            Workshops.cutOff(x, 0, empty ? 8 : 7);
            while (full && x.count(3) < 60) {
                x.cut(1 + x.count(3) % 7);
            }
            if (hot) {
                Workshops.heat(x, 0);
            }
            String label = "hot " + hot + ", empty " + empty + ", full " + full;
            look(label + ", no such cane", x, PLACE, () -> x.cut(8));
            look(label, x, states == 0 ? null : STATE, () -> x.cut(0));
        }
    }

    private static void caneAndCount() {
        for (int what : new int[] {0, 4, -1, 5, 7, 8, MIN, MAX}) {
            for (int cane : SOME_CANES) {
                CaneSlices x = busy();
                boolean place = in(cane, 0, CANES - 1) && in(what, 0, 4);
                look("cane " + cane + ", " + what, x, first(place, true, true), () -> x.cane(cane, what));
            }
            CaneSlices x = busy();
            look("count " + what, x, first(in(what, 0, 7), true, true), () -> x.count(what));
        }
    }

    private static int lengthOf(int cane) {
        int[] lengths = {8, 6, 0, 8};
        return in(cane, 0, CANES - 1) ? lengths[cane] : 0;
    }

    private static void shows() {
        for (int cane : SOME_CANES) {
            for (int place : new int[] {0, 5, 6, 7, -1, 8, 60, MIN, MAX}) {
                for (int ring : SOME_RINGS) {
                    for (int sector : SOME_SECTORS) {
                        CaneSlices x = busyWithEmptyCane();
                        boolean there = in(place, 0, lengthOf(cane) - 1) && in(ring, 0, 2) && in(sector, 0, 7);
                        String label = "shows " + cane + ", " + place + ", " + ring + ", " + sector;
                        look(label, x, first(there, true, true), () -> x.shows(cane, place, ring, sector));
                    }
                }
            }
        }
    }

    private static void again() {
        for (int cane : SOME_CANES) {
            for (int place : new int[] {0, 5, 6, 7, -1, 8, 60, MIN, MAX}) {
                CaneSlices x = busyWithEmptyCane();
                boolean there = in(place, 0, lengthOf(cane) - 1);
                look("again " + cane + ", " + place, x, first(there, true, true), () -> x.again(cane, place));
            }
        }
    }

    private static void colourAndWhere() {
        for (int slice : SOME_SLICES) {
            boolean there = in(slice, 0, SLICES - 1);
            CaneSlices asked = busy();
            look("where " + slice, asked, first(there, true, true), () -> asked.where(slice));
            for (int ring : SOME_RINGS) {
                for (int sector : SOME_SECTORS) {
                    CaneSlices x = busy();
                    boolean place = there && in(ring, 0, 2) && in(sector, 0, 7);
                    String label = "colour " + slice + ", " + ring + ", " + sector;
                    look(label, x, first(place, true, true), () -> x.colour(slice, ring, sector));
                }
            }
        }
    }

    private static boolean isEye(int bead, int eye) {
        return in(bead, 0, BEADS - 1) && in(eye, 0, 3);
    }

    private static void set() {
        for (int bead : SOME_BEADS) {
            for (int eye : SOME_EYES) {
                for (int slice : SOME_SLICES) {
                    for (int turn : SOME_SECTORS) {
                        CaneSlices x = busy();
                        boolean place = isEye(bead, eye) && in(slice, 0, SLICES - 1);
                        boolean free = slice != 0 && !(bead == 0 && eye == 0);
                        Class<? extends RuntimeException> due = first(place, in(turn, 0, 7), free);
                        String label = "set " + bead + ", " + eye + ", " + slice + ", " + turn;
                        look(label, x, due, () -> x.set(bead, eye, slice, turn));
                    }
                }
            }
        }
    }

    private static void drop() {
        for (int bead : SOME_BEADS) {
            for (int eye : SOME_EYES) {
                CaneSlices x = busy();
                boolean filled = bead == 0 && eye == 0;
                look("drop " + bead + ", " + eye, x, first(isEye(bead, eye), true, filled), () -> x.drop(bead, eye));
            }
        }
    }

    private static void seen() {
        for (int bead : SOME_BEADS) {
            for (int eye : SOME_EYES) {
                for (int ring : SOME_RINGS) {
                    for (int sector : SOME_SECTORS) {
                        CaneSlices x = busy();
                        boolean place = isEye(bead, eye) && in(ring, 0, 2) && in(sector, 0, 7);
                        String label = "seen " + bead + ", " + eye + ", " + ring + ", " + sector;
                        look(label, x, first(place, true, true), () -> x.seen(bead, eye, ring, sector));
                    }
                }
            }
        }
    }

    private static void turnAndCuts() {
        for (int slice : SOME_SLICES) {
            boolean there = in(slice, 0, SLICES - 1);
            for (int other : SOME_SLICES) {
                CaneSlices x = busy();
                boolean place = there && in(other, 0, SLICES - 1);
                look("turn " + slice + ", " + other, x, first(place, true, true), () -> x.turn(slice, other));
            }
            for (int cane : SOME_CANES) {
                CaneSlices x = busy();
                boolean place = there && in(cane, 0, CANES - 1);
                look("cuts " + cane + ", " + slice, x, first(place, true, true), () -> x.cuts(cane, slice));
            }
        }
    }

    private static void mends() {
        for (int bead : SOME_BEADS) {
            CaneSlices x = busy();
            look("mends " + bead, x, first(in(bead, 0, BEADS - 1), true, true), () -> x.mends(bead));
        }
    }

    private static void beginAndBead() {
        CaneSlices x = busy();
        for (int canes = CANES; canes < 8; canes++) {
            look("begin", x, null, x::begin);
        }
        look("begin with 8 canes", x, STATE, x::begin);
        for (int beads = BEADS; beads < 6; beads++) {
            look("bead", x, null, x::bead);
        }
        look("bead with 6 beads", x, STATE, x::bead);
        look("begin again", x, STATE, x::begin);
    }
}
