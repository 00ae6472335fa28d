/** Promises 11 to 17: slices and beads. */
public final class SlicesAndBeadsTest {
    private static final int[] WILD = {-1, 60, Integer.MIN_VALUE, Integer.MAX_VALUE};

    public static void main(String[] args) {
        promise11Colour();
        promise12Where();
        promise13Bead();
        promise14Set();
        promise14SetNextBead();
        promise14SetRefuses();
        promise14SetOrder();
        promise15Drop();
        promise16Seen();
        promise17Count();
        promise17CountBeads();
        Check.finish();
    }

    private static void promise11Colour() {
        CaneSlices x = Workshops.withSlices(2);
        int[][] first = {{0, 0, 0, 0, 0, 0, 0, 1}, {0, 2, 2, 2, 0, 0, 0, 0}, {0, 0, 0, 0, 0, 0, 3, 3}};
        for (int ring = 0; ring < 3; ring++) {
            for (int sector = 0; sector < 8; sector++) {
                int r = ring;
                int s = sector;
                Check.same("slice 0: " + r + ", " + s, first[r][s], () -> x.colour(0, r, s));
                Check.same("slice 1: " + r + ", " + s, first[r][(s + 1) % 8], () -> x.colour(1, r, s));
            }
        }
        x.bead();
        x.set(0, 0, 0, 3);
        Check.same("a turn in an eye does not count", 1, () -> x.colour(0, 0, 7));
        for (int bad : WILD) {
            Check.noPlace("slice " + bad, () -> x.colour(bad, 0, 0));
            Check.noPlace("ring " + bad, () -> x.colour(0, bad, 0));
            Check.noPlace("sector " + bad, () -> x.colour(0, 0, bad));
        }
        Check.noPlace("slice 2", () -> x.colour(2, 0, 0));
        Check.noPlace("ring 3", () -> x.colour(0, 3, 0));
        Check.noPlace("sector 8", () -> x.colour(0, 0, 8));
    }

    private static void promise12Where() {
        CaneSlices x = Workshops.withSlices(3);
        x.bead();
        x.bead();
        Check.same("in none", -1, () -> x.where(1));
        x.set(1, 3, 1, 2);
        Check.same("bead 1, eye 3", 7, () -> x.where(1));
        Check.same("others are in none", -1, () -> x.where(0));
        x.set(0, 0, 2, 0);
        Check.same("bead 0, eye 0", 0, () -> x.where(2));
        x.drop(1, 3);
        Check.same("dropped", -1, () -> x.where(1));
        for (int bad : WILD) {
            Check.noPlace("slice " + bad, () -> x.where(bad));
        }
        Check.noPlace("slice 3", () -> x.where(3));
        Check.noPlace("no slices", () -> new CaneSlices().where(0));
    }

    private static void promise13Bead() {
        CaneSlices x = Workshops.withSlices(0);
        for (int number = 0; number < 6; number++) {
            int due = number;
            Check.same("bead", due, x::bead);
            for (int eye = 0; eye < 4; eye++) {
                int e = eye;
                Check.same("empty eye", -1, () -> x.seen(due, e, 0, 0));
            }
        }
        long before = x.digest();
        Check.badState("seventh bead", x::bead);
        Check.badState("eighth bead", x::bead);
        Check.same("six beads", 6, () -> x.count(5));
        Check.same("unchanged", before, x::digest);
    }

    private static void promise14Set() {
        CaneSlices x = Workshops.withSlices(8);
        x.bead();
        x.bead();
        Check.same("first eye", 1, () -> x.set(0, 2, 7, 7));
        Check.same("another bead", 1, () -> x.set(1, 2, 0, 0));
        Check.same("second eye", 2, () -> x.set(0, 0, 6, 0));
        Check.same("third eye", 3, () -> x.set(0, 3, 5, 1));
        Check.same("fourth eye", 4, () -> x.set(0, 1, 4, 2));
        Check.same("slice 7 is at place 0, seen turned by 7", 1, () -> x.seen(0, 2, 0, 7));
        Check.same("slice 4 is at place 3, seen turned by 2", 1, () -> x.seen(0, 1, 0, 5));
        Check.same("no minute", 14, () -> x.count(0));
        x.drop(0, 3);
        Check.same("a dropped one again", 4, () -> x.set(0, 3, 5, 0));
    }

    private static void promise14SetNextBead() {
        CaneSlices x = Workshops.withSlices(3);
        for (int beads = 0; beads < 6; beads++) {
            x.bead();
        }
        x.set(5, 0, 0, 0);
        Check.same("the next bead's eye does not count", 1, () -> x.set(4, 3, 1, 0));
        Check.same("the last eye of the last bead", 2, () -> x.set(5, 3, 2, 0));
        Check.same("where it is", 23, () -> x.where(2));
        Check.same("seen there", 0, () -> x.seen(5, 3, 0, 0));
        Check.same("dropped there", 2, () -> x.drop(5, 3));
    }

    private static void promise14SetRefuses() {
        CaneSlices x = Workshops.withSlices(3);
        x.bead();
        for (int bad : WILD) {
            Check.noPlace("bead " + bad, () -> x.set(bad, 0, 0, 0));
            Check.noPlace("eye " + bad, () -> x.set(0, bad, 0, 0));
            Check.noPlace("slice " + bad, () -> x.set(0, 0, bad, 0));
            Check.badArgument("turn " + bad, () -> x.set(0, 0, 0, bad));
        }
        Check.noPlace("bead 1", () -> x.set(1, 0, 0, 0));
        Check.noPlace("eye 4", () -> x.set(0, 4, 0, 0));
        Check.noPlace("slice 3", () -> x.set(0, 0, 3, 0));
        Check.badArgument("turn 8", () -> x.set(0, 0, 0, 8));
        x.set(0, 0, 0, 5);
        long before = x.digest();
        Check.badState("the eye has one", () -> x.set(0, 0, 1, 0));
        Check.badState("the slice is in an eye", () -> x.set(0, 1, 0, 0));
        Check.badState("both", () -> x.set(0, 0, 0, 5));
        Check.same("unchanged", before, x::digest);
        x.bead();
        Check.badState("the slice is in another bead", () -> x.set(1, 0, 0, 0));
    }

    private static void promise14SetOrder() {
        CaneSlices x = Workshops.withSlices(2);
        x.bead();
        x.set(0, 0, 0, 0);
        Check.noPlace("bead before turn", () -> x.set(1, 0, 0, 8));
        Check.noPlace("eye before turn", () -> x.set(0, 4, 0, 8));
        Check.noPlace("slice before turn", () -> x.set(0, 0, 2, 8));
        Check.noPlace("slice before the full eye", () -> x.set(0, 0, 2, 0));
        Check.badArgument("turn before the full eye", () -> x.set(0, 0, 1, 8));
        Check.badArgument("turn before the set slice", () -> x.set(0, 1, 0, -1));
    }

    private static void promise15Drop() {
        CaneSlices x = Workshops.withSlices(3);
        x.bead();
        x.bead();
        x.set(0, 1, 2, 6);
        x.set(1, 1, 0, 6);
        long before = x.digest();
        for (int bad : WILD) {
            Check.noPlace("bead " + bad, () -> x.drop(bad, 0));
            Check.noPlace("eye " + bad, () -> x.drop(0, bad));
        }
        Check.noPlace("bead 2", () -> x.drop(2, 0));
        Check.noPlace("eye 4", () -> x.drop(0, 4));
        Check.badState("it has none", () -> x.drop(0, 0));
        Check.same("unchanged", before, x::digest);
        Check.same("drop", 2, () -> x.drop(0, 1));
        Check.same("nothing is seen", -1, () -> x.seen(0, 1, 0, 0));
        Check.same("one in an eye is left", 1, () -> x.count(4));
        Check.badState("dropped twice", () -> x.drop(0, 1));
        Check.same("the other bead keeps its own", 0, () -> x.drop(1, 1));
        Check.same("three slices still", 3, () -> x.count(3));
    }

    private static void promise16Seen() {
        CaneSlices x = Workshops.withSlices(1);
        x.bead();
        x.set(0, 2, 0, 3);
        int[][] seen = {{0, 0, 1, 0, 0, 0, 0, 0}, {0, 0, 0, 0, 2, 2, 2, 0}, {0, 3, 3, 0, 0, 0, 0, 0}};
        for (int ring = 0; ring < 3; ring++) {
            for (int sector = 0; sector < 8; sector++) {
                int r = ring;
                int s = sector;
                Check.same("seen " + r + ", " + s, seen[r][s], () -> x.seen(0, 2, r, s));
                Check.same("without a slice", -1, () -> x.seen(0, 1, r, s));
            }
        }
        for (int bad : WILD) {
            Check.noPlace("bead " + bad, () -> x.seen(bad, 0, 0, 0));
            Check.noPlace("eye " + bad, () -> x.seen(0, bad, 0, 0));
            Check.noPlace("ring " + bad, () -> x.seen(0, 2, bad, 0));
            Check.noPlace("sector " + bad, () -> x.seen(0, 2, 0, bad));
        }
        Check.noPlace("bead 1", () -> x.seen(1, 0, 0, 0));
        Check.noPlace("eye 4", () -> x.seen(0, 4, 0, 0));
        Check.noPlace("ring 3", () -> x.seen(0, 2, 3, 0));
        Check.noPlace("sector 8", () -> x.seen(0, 2, 0, 8));
        Check.noPlace("ring 3 of an empty eye", () -> x.seen(0, 1, 3, 0));
        Check.noPlace("sector 8 of an empty eye", () -> x.seen(0, 1, 0, 8));
    }

    private static void promise17Count() {
        CaneSlices x = Workshops.withSlices(3);
        x.begin();
        x.begin();
        x.furnace(2);
        x.pull(2);
        x.rest(8);
        x.lay(1, 0, 0, 1, 1);
        x.bead();
        x.bead();
        x.bead();
        x.set(1, 0, 0, 0);
        x.set(2, 0, 2, 0);
        int[] due = {24, 3, 2, 3, 2, 3, 0, 5 + 8 + 16};
        for (int what = 0; what < 8; what++) {
            int n = what;
            Check.same("count " + n, due[n], () -> x.count(n));
        }
        for (int bad : new int[] {-1, 8, Integer.MIN_VALUE, Integer.MAX_VALUE}) {
            Check.noPlace("count " + bad, () -> x.count(bad));
        }
    }

    private static void promise17CountBeads() {
        CaneSlices x = Workshops.withSlices(8);
        x.bead();
        x.bead();
        Check.same("empty eyes are not counted", 0, () -> x.count(6));
        // The slice n is that of the place 7 - n: turned by n more, all look alike.
        x.set(0, 0, 0, 0);
        x.set(0, 1, 1, 1);
        x.set(0, 2, 2, 2);
        Check.same("three eyes are not enough", 0, () -> x.count(6));
        x.set(0, 3, 3, 3);
        Check.same("four look alike", 1, () -> x.count(6));
        x.set(1, 0, 4, 0);
        x.set(1, 1, 5, 1);
        x.set(1, 2, 6, 2);
        x.set(1, 3, 7, 4);
        Check.same("the last one is turned too far", 1, () -> x.count(6));
        x.drop(1, 3);
        x.set(1, 3, 7, 3);
        Check.same("both, though each looks otherwise", 2, () -> x.count(6));
        x.drop(0, 0);
        Check.same("one eye less", 1, () -> x.count(6));
        x.set(0, 0, 0, 0);
        x.drop(0, 3);
        x.drop(1, 0);
        x.set(1, 0, 3, 3);
        Check.same("nor does the next bead's eye count", 0, () -> x.count(6));
    }
}
