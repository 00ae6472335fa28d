/**
 * Promises 1 to 10: each sentence that names a boundary, quoted above its test. What throws, with
 * all arguments and in all orders, stands in RefusedCallsTest.
 */
public final class CanesBoundariesTest {
    public static void main(String[] args) {
        newObject();
        begin();
        laySectorsRound();
        layColours();
        twistSums();
        pullLengths();
        pullTwists();
        furnace();
        restMinutes();
        restHeat();
        cutLastPlace();
        cutHeat();
        cutLastSlice();
        caneWhats();
        showsPlaces();
        showsSpots();
        Check.finish();
    }

    private static void noCane(String label, CaneSlices x, Check.Call call) {
        Check.refusedUnchanged(label, x, IndexOutOfBoundsException.class, call);
    }

    /** Promise 1: "Creates a workshop without canes, in the minute 0." */
    private static void newObject() {
        CaneSlices x = new CaneSlices();
        for (int what = 0; what < 8; what++) {
            int w = what;
            Check.same("count " + what, 0, () -> x.count(w));
        }
        noCane("lay", x, () -> x.lay(0, 0, 0, 1, 0));
        noCane("twist", x, () -> x.twist(0, 1));
        noCane("pull", x, () -> x.pull(0));
        noCane("furnace", x, () -> x.furnace(0));
        noCane("cut", x, () -> x.cut(0));
        noCane("cane", x, () -> x.cane(0, 0));
        noCane("shows", x, () -> x.shows(0, 0, 0, 0));
        noCane("again", x, () -> x.again(0, 0));
        Check.same("nothing in the furnace", -1, () -> x.furnace(-1));
    }

    /** Promise 2: "Throws IllegalStateException if there are 8" */
    private static void begin() {
        CaneSlices x = Workshops.withCanes(7);
        Check.same("with 7", 7, x::begin);
        Check.refusedUnchanged("with 8", x, IllegalStateException.class, x::begin);
        x.rest(10);
        for (int cane = 0; cane < 8; cane++) {
            x.pull(cane);
        }
        Workshops.cutOff(x, 3, 8);
        Check.refusedUnchanged("with 8 of no use", x, IllegalStateException.class, x::begin);
    }

    /** Promise 3: "first: the first sector", "sectors: how many, round" */
    private static void laySectorsRound() {
        for (int first = 0; first < 8; first++) {
            for (int sectors = 1; sectors <= 8; sectors++) {
                laidFrom(first, sectors, (first + sectors) % 3);
            }
        }
    }

    private static void laidFrom(int first, int sectors, int ring) {
        CaneSlices x = Workshops.withCanes(1);
        String label = "lay " + sectors + " from " + first + " in " + ring;
        Check.same(label, true, () -> x.lay(0, ring, first, sectors, 6));
        for (int spot = 0; spot < 24; spot++) {
            int r = spot / 8;
            int s = spot % 8;
            boolean laid = r == ring && (s + 8 - first) % 8 < sectors;
            Check.same(label + ": " + r + ", " + s, laid ? 6 : 0, () -> x.shows(0, 0, r, s));
        }
    }

    /** Promise 3: "colour is not 0 to 7": from 0, which lays over another one, to 7 */
    private static void layColours() {
        CaneSlices x = Workshops.withCanes(1);
        x.furnace(0);
        for (int colour = 7; colour >= 0; colour--) {
            int c = colour;
            Check.same("lay " + colour, true, () -> x.lay(0, 2, 7, 1, c));
            Check.same("laid " + colour, colour, () -> x.shows(0, 7, 2, 7));
        }
        Check.refusedUnchanged("-1", x, IllegalArgumentException.class, () -> x.lay(0, 2, 7, 1, -1));
        Check.refusedUnchanged("8", x, IllegalArgumentException.class, () -> x.lay(0, 2, 7, 1, 8));
    }

    /** Promise 4: "by is 0, or not -4 to 4", "or its twist would not be -4 to 4" */
    private static void twistSums() {
        for (int twist = -4; twist <= 4; twist++) {
            for (int by = -5; by <= 5; by++) {
                twisted(twist, by);
            }
        }
    }

    private static void twisted(int twist, int by) {
        CaneSlices x = Workshops.marked(1);
        if (twist != 0) {
            x.twist(0, twist);
        }
        String label = "twist " + twist + " by " + by;
        if (by == 0 || by == -5 || by == 5) {
            Check.refusedUnchanged(label, x, IllegalArgumentException.class, () -> x.twist(0, by));
        } else if (twist + by < -4 || twist + by > 4) {
            Check.refusedUnchanged(label, x, IllegalStateException.class, () -> x.twist(0, by));
        } else {
            Check.same(label, true, () -> x.twist(0, by));
            Check.same(label + ": then", twist + by, () -> x.cane(0, 1));
        }
    }

    /** Promise 5: "it is twice as long (at most 60)" */
    private static void pullLengths() {
        for (int length = 0; length <= 60; length++) {
            CaneSlices x = Workshops.numberedOfLength(length);
            Workshops.heat(x, 0);
            int due = length > 30 ? 60 : 2 * length;
            Check.same("pull " + length, true, () -> x.pull(0));
            Check.same("twice " + length, due, () -> x.cane(0, 0));
            Check.same("slices stay", 60 - length, () -> x.count(3));
        }
    }

    /** Promise 5: "with half of its twist, cut towards 0" */
    private static void pullTwists() {
        int[] due = {-2, -1, -1, 0, 0, 0, 1, 1, 2};
        for (int twist = -4; twist <= 4; twist++) {
            CaneSlices x = Workshops.marked(1);
            if (twist != 0) {
                x.twist(0, twist);
            }
            x.pull(0);
            Check.same("half of " + twist, due[twist + 4], () -> x.cane(0, 1));
        }
    }

    /** Promise 6: "-1 for none", "if there is no such cane, and it is not -1" */
    private static void furnace() {
        CaneSlices x = Workshops.withCanes(8);
        Check.same("none into it, none in it", -1, () -> x.furnace(-1));
        Check.same("the first one", -1, () -> x.furnace(0));
        Check.same("the last one", 0, () -> x.furnace(7));
        Check.same("the same one", 7, () -> x.furnace(7));
        for (int bad : new int[] {-2, 8, Integer.MIN_VALUE, Integer.MAX_VALUE}) {
            noCane("cane " + bad, x, () -> x.furnace(bad));
        }
        Check.same("none into it", 7, () -> x.furnace(-1));
        Check.same("none in it", -1, () -> x.furnace(-1));
        CaneSlices few = Workshops.withCanes(2);
        noCane("the one that is not begun", few, () -> few.furnace(2));
        Check.same("the one that is", -1, () -> few.furnace(1));
    }

    /** Promise 7: "Throws IllegalArgumentException if minutes is not 1 to 60" */
    private static void restMinutes() {
        CaneSlices x = Workshops.withCanes(1);
        Check.same("1", 9, () -> x.rest(1));
        Check.same("1 minute", 1, () -> x.count(0));
        Check.same("60", 0, () -> x.rest(60));
        Check.same("60 minutes", 61, () -> x.count(0));
        for (int bad : new int[] {0, 61, -1, Integer.MIN_VALUE, Integer.MAX_VALUE}) {
            Check.refusedUnchanged("rest " + bad, x, IllegalArgumentException.class, () -> x.rest(bad));
        }
    }

    /** Promise 7: "Returns the heat of all canes then, added." */
    private static void restHeat() {
        Check.same("of none", 0, () -> new CaneSlices().rest(1));
        Check.same("of 8", 8 * 9, () -> Workshops.withCanes(8).rest(1));
        CaneSlices x = Workshops.withCanes(8);
        x.furnace(7);
        Check.same("10 in the furnace, the others 0", 10, () -> x.rest(60));
        x.furnace(0);
        Check.same("3 and 9", 12, () -> x.rest(1));
        CaneSlices cracked = Workshops.withHeat(5);
        cracked.pull(0);
        Check.same("a cracked one is counted", 3, () -> cracked.rest(1));
    }

    /** Promise 8: "that of its last place; it is 1 shorter", "if its length is 0" */
    private static void cutLastPlace() {
        CaneSlices x = Workshops.numberedOf60();
        x.twist(0, -3);
        Workshops.cool(x);
        for (int place = 59; place >= 0; place--) {
            int slice = 59 - place;
            int length = place;
            Check.same("cut at " + place, slice, () -> x.cut(0));
            Check.same("at sector 0", 3 * place % 8, () -> x.colour(slice, 0, 0));
            Check.same("at sector 7", (3 * place + 7) % 8, () -> x.colour(slice, 0, 7));
            Check.same("1 shorter", length, () -> x.cane(0, 0));
        }
        CaneSlices spent = Workshops.withHeat(0);
        Workshops.cutOff(spent, 0, 7);
        Check.same("with length 1", 7, () -> spent.cut(0));
        Check.refusedUnchanged("with length 0", spent, IllegalStateException.class, () -> spent.cut(0));
    }

    /** Promise 8: "its heat is more than 3" */
    private static void cutHeat() {
        for (int heat = 0; heat <= 10; heat++) {
            CaneSlices x = Workshops.withHeat(heat);
            if (heat <= 3) {
                Check.same("cut with heat " + heat, 0, () -> x.cut(0));
                Check.same("it stays so", heat, () -> x.cane(0, 2));
            } else {
                Check.refusedUnchanged("heat " + heat, x, IllegalStateException.class, () -> x.cut(0));
            }
        }
        CaneSlices cracked = Workshops.withHeat(0);
        cracked.pull(0);
        Check.same("a cracked one", 0, () -> cracked.cut(0));
        CaneSlices heated = Workshops.withHeat(3);
        heated.furnace(0);
        Check.same("one in the furnace", 0, () -> heated.cut(0));
    }

    /** Promise 8: "or there are 60 slices" */
    private static void cutLastSlice() {
        CaneSlices x = Workshops.withCanes(8);
        x.rest(10);
        for (int cut = 0; cut < 59; cut++) {
            x.cut(cut / 8);
        }
        Check.same("with 59 slices", 59, () -> x.cut(7));
        Check.refusedUnchanged("with 60", x, IllegalStateException.class, () -> x.cut(7));
        x.bead();
        x.set(0, 0, 0, 0);
        Check.refusedUnchanged("though one is set", x, IllegalStateException.class, () -> x.cut(7));
    }

    /** Promise 9: "if there is no such cane, or what is not 0 to 4" */
    private static void caneWhats() {
        CaneSlices x = Workshops.numberedOf60();
        x.twist(0, -4);
        x.begin();
        int[] most = {60, -4, 10, 1, 1};
        int[] first = {8, 0, 10, 1, 0};
        for (int what = 0; what < 5; what++) {
            int w = what;
            Check.same("cane 0, " + what, most[what], () -> x.cane(0, w));
            Check.same("cane 1, " + what, first[what], () -> x.cane(1, w));
        }
        CaneSlices least = Workshops.withHeat(0);
        Workshops.cutOff(least, 0, 8);
        least.lay(0, 0, 0, 1, 0);
        for (int what = 0; what < 5; what++) {
            int w = what;
            Check.same("all 0, " + what, 0, () -> least.cane(0, w));
        }
        for (int bad : new int[] {-1, 5, Integer.MIN_VALUE, Integer.MAX_VALUE}) {
            noCane("what " + bad, x, () -> x.cane(1, bad));
        }
        for (int bad : new int[] {-1, 2, 8, Integer.MIN_VALUE, Integer.MAX_VALUE}) {
            noCane("cane " + bad, x, () -> x.cane(bad, 4));
        }
    }

    /** Promise 10: "if there is no such place": behind the end, where it was pulled or cut, too */
    private static void showsPlaces() {
        CaneSlices x = Workshops.numbered();
        Check.same("the first place", 5, () -> x.shows(0, 0, 0, 5));
        Check.same("the last place", 5, () -> x.shows(0, 7, 0, 5));
        noCane("place -1", x, () -> x.shows(0, -1, 0, 5));
        noCane("place 8", x, () -> x.shows(0, 8, 0, 5));
        x.pull(0);
        Check.same("pulled", 5, () -> x.shows(0, 15, 0, 5));
        noCane("place 16", x, () -> x.shows(0, 16, 0, 5));
        Workshops.cool(x);
        Workshops.cutOff(x, 0, 15);
        Check.same("one place left", 5, () -> x.shows(0, 0, 0, 5));
        noCane("the cut one", x, () -> x.shows(0, 1, 0, 5));
        x.cut(0);
        noCane("no place left", x, () -> x.shows(0, 0, 0, 5));
        noCane("nor -1", x, () -> x.shows(0, -1, 0, 5));
    }

    /** Promise 10: "no such cane, ring or sector" */
    private static void showsSpots() {
        CaneSlices x = Workshops.marked(1);
        x.lay(0, 2, 7, 1, 3);
        Check.same("ring 0, sector 0", 1, () -> x.shows(0, 0, 0, 0));
        Check.same("ring 2, sector 7", 3, () -> x.shows(0, 0, 2, 7));
        for (int bad : new int[] {-1, 3, Integer.MIN_VALUE, Integer.MAX_VALUE}) {
            noCane("ring " + bad, x, () -> x.shows(0, 0, bad, 0));
        }
        for (int bad : new int[] {-1, 8, Integer.MIN_VALUE, Integer.MAX_VALUE}) {
            noCane("sector " + bad, x, () -> x.shows(0, 0, 0, bad));
        }
        noCane("cane 1", x, () -> x.shows(1, 0, 0, 0));
    }
}
