/**
 * Promises 11 to 17: each sentence that names a boundary, quoted above its test. What throws, with
 * all arguments and in all orders, stands in RefusedCallsTest.
 */
public final class SlicesAndBeadsBoundariesTest {
    public static void main(String[] args) {
        colourSlices();
        colourSpots();
        whereFirstAndLast();
        whereNone();
        beads();
        setCounts();
        setFullEye();
        setSliceInEye();
        setEdges();
        dropEachEye();
        dropNone();
        seenWithoutSlice();
        seenRound();
        countWhats();
        countNothing();
        countAll();
        countBeadsAlike();
        Check.finish();
    }

    private static void noPlace(String label, CaneSlices x, Check.Call call) {
        Check.refusedUnchanged(label, x, IndexOutOfBoundsException.class, call);
    }

    private static void badState(String label, CaneSlices x, Check.Call call) {
        Check.refusedUnchanged(label, x, IllegalStateException.class, call);
    }

    /** Six beads with slices of one look in all their eyes; the slice 24 and those behind it are free. */
    private static CaneSlices withFullBeads() {
        CaneSlices x = Workshops.with60Slices();
        Workshops.beads(x, 6);
        for (int index = 0; index < 24; index++) {
            x.set(index / 4, index % 4, index, index % 8);
        }
        return x;
    }

    /** Promise 11: "if there is no such slice" */
    private static void colourSlices() {
        CaneSlices none = Workshops.withSlices(0);
        noPlace("no slice yet", none, () -> none.colour(0, 0, 0));
        CaneSlices x = Workshops.numberedOfLength(0);
        Check.same("the first slice", 3, () -> x.colour(0, 0, 3));
        Check.same("the last slice", 3, () -> x.colour(59, 0, 3));
        for (int bad : new int[] {-1, 60, Integer.MIN_VALUE, Integer.MAX_VALUE}) {
            noPlace("slice " + bad, x, () -> x.colour(bad, 0, 3));
        }
        CaneSlices two = Workshops.withSlices(2);
        Check.same("the last of two", 1, () -> two.colour(1, 0, 6));
        noPlace("the third of two", two, () -> two.colour(2, 0, 6));
    }

    /** Promise 11: "no such ring or sector" */
    private static void colourSpots() {
        CaneSlices x = Workshops.withSlices(1);
        int[][] due = {{0, 0, 0, 0, 0, 0, 0, 1}, {0, 2, 2, 2, 0, 0, 0, 0}, {0, 0, 0, 0, 0, 0, 3, 3}};
        for (int spot = 0; spot < 24; spot++) {
            int r = spot / 8;
            int s = spot % 8;
            Check.same("ring " + r + ", sector " + s, due[r][s], () -> x.colour(0, r, s));
        }
        for (int bad : new int[] {-1, 3, Integer.MIN_VALUE, Integer.MAX_VALUE}) {
            noPlace("ring " + bad, x, () -> x.colour(0, bad, 0));
        }
        for (int bad : new int[] {-1, 8, Integer.MIN_VALUE, Integer.MAX_VALUE}) {
            noPlace("sector " + bad, x, () -> x.colour(0, 0, bad));
        }
    }

    /** Promise 12: "4 * the bead + the eye", from 0 to 23 */
    private static void whereFirstAndLast() {
        CaneSlices x = withFullBeads();
        for (int slice = 0; slice < 24; slice++) {
            int s = slice;
            Check.same("slice " + slice, slice, () -> x.where(s));
        }
        Check.same("the last slice", -1, () -> x.where(59));
        for (int bad : new int[] {-1, 60, Integer.MIN_VALUE, Integer.MAX_VALUE}) {
            noPlace("slice " + bad, x, () -> x.where(bad));
        }
    }

    /** Promise 12: "-1 if it is in none", at first and when it fell out */
    private static void whereNone() {
        CaneSlices none = Workshops.withSlices(0);
        noPlace("no slice yet", none, () -> none.where(0));
        CaneSlices x = Workshops.withSlices(1);
        x.bead();
        Check.same("at first", -1, () -> x.where(0));
        x.set(0, 0, 0, 0);
        Check.same("in the eye 0", 0, () -> x.where(0));
        x.drop(0, 0);
        Check.same("fallen out", -1, () -> x.where(0));
        noPlace("the next slice", x, () -> x.where(1));
    }

    /** Promise 13: "a new bead, without slices", "if there are 6" */
    private static void beads() {
        CaneSlices x = Workshops.withSlices(1);
        Workshops.beads(x, 1);
        x.set(0, 3, 0, 0);
        for (int number = 1; number < 6; number++) {
            int n = number;
            Check.same("bead", number, x::bead);
            for (int eye = 0; eye < 4; eye++) {
                int e = eye;
                Check.same("without slices", -1, () -> x.seen(n, e, 0, 0));
            }
        }
        badState("with 6", x, x::bead);
        x.drop(0, 3);
        badState("with 6 empty ones", x, x::bead);
    }

    /** Promise 14: "Returns how many eyes of the bead have slices then", 1 to 4 */
    private static void setCounts() {
        int[][] orders = {{0, 1, 2, 3}, {3, 2, 1, 0}, {1, 3, 0, 2}};
        CaneSlices x = Workshops.withSlices(8);
        Workshops.beads(x, 6);
        for (int[] order : orders) {
            for (int nth = 0; nth < 4; nth++) {
                int n = nth;
                Check.same("eye " + order[n], n + 1, () -> x.set(5, order[n], n, 0));
            }
            for (int eye = 0; eye < 4; eye++) {
                x.drop(5, eye);
            }
            Check.same("the first of another bead", 1, () -> x.set(0, 3, 4, 0));
            x.drop(0, 3);
        }
    }

    /** Promise 14: "if the eye has one" */
    private static void setFullEye() {
        CaneSlices x = Workshops.withSlices(5);
        x.bead();
        for (int eye = 0; eye < 4; eye++) {
            x.set(0, eye, eye, 0);
        }
        for (int eye = 0; eye < 4; eye++) {
            int e = eye;
            badState("the full eye " + eye, x, () -> x.set(0, e, 4, 0));
        }
        x.drop(0, 2);
        Check.same("the empty eye", 4, () -> x.set(0, 2, 4, 0));
    }

    /** Promise 14: "or the slice is in an eye" */
    private static void setSliceInEye() {
        CaneSlices x = Workshops.withSlices(2);
        Workshops.beads(x, 6);
        x.set(5, 3, 1, 0);
        for (int index = 0; index < 23; index++) {
            int i = index;
            badState("into the eye " + index, x, () -> x.set(i / 4, i % 4, 1, 0));
        }
        Check.same("the free one", 2, () -> x.set(5, 2, 0, 0));
    }

    /** Promise 14: "no such bead, or eye is not 0 to 3, or no such slice", "turn is not 0 to 7" */
    private static void setEdges() {
        CaneSlices x = Workshops.withSlices(1);
        noPlace("no bead yet", x, () -> x.set(0, 0, 0, 0));
        x.bead();
        for (int bad : new int[] {-1, 1, 6, Integer.MIN_VALUE, Integer.MAX_VALUE}) {
            noPlace("bead " + bad, x, () -> x.set(bad, 0, 0, 0));
            noPlace("slice " + bad, x, () -> x.set(0, 0, bad, 0));
        }
        for (int bad : new int[] {-1, 4, Integer.MIN_VALUE, Integer.MAX_VALUE}) {
            noPlace("eye " + bad, x, () -> x.set(0, bad, 0, 0));
        }
        for (int bad : new int[] {-1, 8, Integer.MIN_VALUE, Integer.MAX_VALUE}) {
            Check.refusedUnchanged("turn " + bad, x, IllegalArgumentException.class, () -> x.set(0, 0, 0, bad));
        }
        Check.same("the last eye, the most turn", 1, () -> x.set(0, 3, 0, 7));
        CaneSlices full = Workshops.with60Slices();
        Workshops.beads(full, 6);
        Check.same("the last of all", 1, () -> full.set(5, 3, 59, 7));
        noPlace("no slice 60", full, () -> full.set(5, 2, 60, 7));
        noPlace("no bead 6", full, () -> full.set(6, 3, 58, 7));
    }

    /** Promise 15: "Returns this slice": out of the first eye of all to the last */
    private static void dropEachEye() {
        CaneSlices x = withFullBeads();
        for (int index = 0; index < 24; index++) {
            int i = index;
            Check.same("drop", index, () -> x.drop(i / 4, i % 4));
            Check.same("one less", 23 - index, () -> x.count(4));
        }
        Check.same("the slices stay", 60, () -> x.count(3));
    }

    /** Promise 15: "no such bead, or eye is not 0 to 3", "if it has none" */
    private static void dropNone() {
        CaneSlices x = Workshops.withSlices(1);
        noPlace("no bead yet", x, () -> x.drop(0, 0));
        x.bead();
        for (int eye = 0; eye < 4; eye++) {
            int e = eye;
            badState("never set", x, () -> x.drop(0, e));
        }
        x.set(0, 3, 0, 7);
        badState("beside it", x, () -> x.drop(0, 2));
        for (int bad : new int[] {-1, 4, Integer.MIN_VALUE, Integer.MAX_VALUE}) {
            noPlace("eye " + bad, x, () -> x.drop(0, bad));
        }
        for (int bad : new int[] {-1, 1, 6, Integer.MIN_VALUE, Integer.MAX_VALUE}) {
            noPlace("bead " + bad, x, () -> x.drop(bad, 3));
        }
        Check.same("drop", 0, () -> x.drop(0, 3));
        badState("fallen out", x, () -> x.drop(0, 3));
    }

    /** Promise 16: "-1 without a slice", but not where there is no such ring or sector */
    private static void seenWithoutSlice() {
        CaneSlices x = Workshops.withSlices(1);
        noPlace("no bead yet", x, () -> x.seen(0, 0, 0, 0));
        x.bead();
        x.set(0, 3, 0, 0);
        for (int spot = 0; spot < 24; spot++) {
            int s = spot;
            Check.same("without a slice", -1, () -> x.seen(0, 2, s / 8, s % 8));
        }
        for (int eye = 2; eye <= 3; eye++) {
            int e = eye;
            noPlace("ring -1", x, () -> x.seen(0, e, -1, 0));
            noPlace("ring 3", x, () -> x.seen(0, e, 3, 0));
            noPlace("sector -1", x, () -> x.seen(0, e, 0, -1));
            noPlace("sector 8", x, () -> x.seen(0, e, 0, 8));
        }
        noPlace("eye -1", x, () -> x.seen(0, -1, 0, 0));
        noPlace("eye 4", x, () -> x.seen(0, 4, 0, 0));
        noPlace("bead -1", x, () -> x.seen(-1, 3, 0, 0));
        noPlace("bead 1", x, () -> x.seen(1, 3, 0, 0));
        x.drop(0, 3);
        Check.same("fallen out", -1, () -> x.seen(0, 3, 0, 7));
    }

    /** Promise 16: "the colour that is seen there": turned from the sector 7 to 0, in each ring */
    private static void seenRound() {
        CaneSlices x = Workshops.withSlices(1);
        Workshops.beads(x, 6);
        x.set(5, 3, 0, 1);
        int[][] due = {{1, 0, 0, 0, 0, 0, 0, 0}, {0, 0, 2, 2, 2, 0, 0, 0}, {3, 0, 0, 0, 0, 0, 0, 3}};
        for (int spot = 0; spot < 24; spot++) {
            int r = spot / 8;
            int s = spot % 8;
            Check.same("ring " + r + ", sector " + s, due[r][s], () -> x.seen(5, 3, r, s));
        }
    }

    /** Promise 17: "if what is not 0 to 7" */
    private static void countWhats() {
        CaneSlices x = Workshops.withSlices(2);
        Check.same("what 0", 14, () -> x.count(0));
        Check.same("what 7", 6, () -> x.count(7));
        for (int bad : new int[] {-1, 8, Integer.MIN_VALUE, Integer.MAX_VALUE}) {
            noPlace("what " + bad, x, () -> x.count(bad));
        }
    }

    /** Promise 17: with canes that are cracked and used up, and beads without slices */
    private static void countNothing() {
        CaneSlices x = Workshops.withHeat(0);
        Workshops.cutOff(x, 0, 8);
        x.lay(0, 0, 0, 1, 1);
        x.bead();
        int[] due = {11, 1, 0, 8, 0, 1, 0, 0};
        for (int what = 0; what < 8; what++) {
            int w = what;
            Check.same("count " + what, due[what], () -> x.count(w));
        }
    }

    /** Promise 17: the most of each */
    private static void countAll() {
        CaneSlices x = withFullBeads();
        int[] due = {10, 8, 8, 60, 24, 6, 6, 4};
        for (int what = 0; what < 8; what++) {
            int w = what;
            Check.same("count " + what, due[what], () -> x.count(w));
        }
        CaneSlices longest = Workshops.withCanes(8);
        for (int cane = 0; cane < 8; cane++) {
            Workshops.heat(longest, cane);
            for (int pulls = 0; pulls < 3; pulls++) {
                longest.pull(cane);
            }
        }
        Check.same("the most length", 480, () -> longest.count(7));
    }

    /** Promise 17: "beads whose four eyes have slices and look alike": all four, none turned otherwise */
    private static void countBeadsAlike() {
        for (int eye = 0; eye < 4; eye++) {
            CaneSlices x = Workshops.withSlices(8);
            Workshops.beads(x, 6);
            // The slice n is that of the place 7 - n: turned by n more, all look alike.
            for (int n = 0; n < 4; n++) {
                x.set(5, n, n, n);
            }
            int e = eye;
            Check.same("four alike", 1, () -> x.count(6));
            x.drop(5, e);
            Check.same("three, without the eye " + e, 0, () -> x.count(6));
            x.set(5, e, e, (e + 1) % 8);
            Check.same("the eye " + e + " turned otherwise", 0, () -> x.count(6));
            x.drop(5, e);
            x.set(5, e, 7, 7);
            Check.same("another slice of that look", 1, () -> x.count(6));
        }
    }
}
