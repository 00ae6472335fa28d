/** Promises 18 to 23: what would be. */
public final class WhatWouldBeTest {
    private static final int[] WILD = {-1, 60, Integer.MIN_VALUE, Integer.MAX_VALUE};

    public static void main(String[] args) {
        promise18Again();
        promise18AgainRefuses();
        promise19Turn();
        promise20Cuts();
        promise20CutsRefuses();
        promise21MendsKeeping();
        promise21MendsAnew();
        promise21MendsTurned();
        promise21MendsLastBead();
        promise21MendsRefuses();
        promise22Mean();
        promise23Digest();
        promise23DigestOfNumbers();
        Check.finish();
    }

    private static void promise18Again() {
        CaneSlices x = Workshops.marked(1);
        Check.same("without a twist", 4, () -> x.again(0, 3));
        Check.same("last place", -1, () -> x.again(0, 7));
        x.twist(0, 4);
        Check.same("every second one", 5, () -> x.again(0, 3));
        Check.same("6", -1, () -> x.again(0, 6));
        Check.same("5", 7, () -> x.again(0, 5));
        x.twist(0, -1);
        Check.same("twist 3 in 8 places", -1, () -> x.again(0, 0));
        x.twist(0, -1);
        Check.same("twist 2", 4, () -> x.again(0, 0));
        Check.same("twist 2, 3", 7, () -> x.again(0, 3));
        Check.same("twist 2, 4", -1, () -> x.again(0, 4));
        x.lay(0, 0, 4, 1, 1);
        Check.same("the mark twice round", 2, () -> x.again(0, 0));
        x.lay(0, 2, 0, 1, 1);
        Check.same("but once in the rim", 4, () -> x.again(0, 0));
        x.pull(0);
        x.twist(0, -2);
        Check.same("twist -1 in 16 places", 8, () -> x.again(0, 0));
        Check.same("twist -1, 7", 15, () -> x.again(0, 7));
        Check.same("twist -1, 8", -1, () -> x.again(0, 8));
    }

    private static void promise18AgainRefuses() {
        CaneSlices x = Workshops.marked(1);
        for (int bad : WILD) {
            Check.noPlace("cane " + bad, () -> x.again(bad, 0));
            Check.noPlace("place " + bad, () -> x.again(0, bad));
        }
        Check.noPlace("cane 1", () -> x.again(1, 0));
        Check.noPlace("place 8", () -> x.again(0, 8));
        Workshops.cool(x);
        Workshops.cutOff(x, 0, 8);
        Check.noPlace("no place left", () -> x.again(0, 0));
    }

    private static void promise19Turn() {
        CaneSlices x = Workshops.marked(1);
        x.twist(0, 3);
        Workshops.cool(x);
        Workshops.cutOff(x, 0, 8);
        for (int slice = 0; slice < 8; slice++) {
            int n = slice;
            // The place goes from 7 - n to 7: by n * 3 sectors.
            Check.same("turn " + n + " to 0", n * 3 % 8, () -> x.turn(n, 0));
            Check.same("turn 0 to " + n, (64 - n * 3) % 8, () -> x.turn(0, n));
            Check.same("turn to itself", 0, () -> x.turn(n, n));
        }
        x.begin();
        x.furnace(1);
        x.lay(1, 0, 0, 1, 1);
        x.lay(1, 0, 4, 1, 1);
        x.twist(1, 1);
        Workshops.cool(x);
        Workshops.cutOff(x, 1, 4);
        Check.same("the least of two", 3, () -> x.turn(11, 8));
        Check.same("the least of two, back", 1, () -> x.turn(8, 11));
        Check.same("not alike", -1, () -> x.turn(0, 8));
        x.bead();
        x.set(0, 0, 8, 2);
        Check.same("a turn in an eye does not count", 3, () -> x.turn(11, 8));
        for (int bad : WILD) {
            Check.noPlace("slice " + bad, () -> x.turn(bad, 0));
            Check.noPlace("other " + bad, () -> x.turn(0, bad));
        }
        Check.noPlace("slice 12", () -> x.turn(12, 0));
        Check.noPlace("other 12", () -> x.turn(0, 12));
    }

    private static void promise20Cuts() {
        CaneSlices x = Workshops.marked(1);
        x.twist(0, 1);
        x.pull(0);
        x.twist(0, 1);
        Workshops.cool(x);
        Workshops.cutOff(x, 0, 3);
        // The slices are those of the places 15, 14, 13; 13 places are left, 0 to 12.
        Check.same("place 7", 6, () -> x.cuts(0, 0));
        Check.same("place 6", 7, () -> x.cuts(0, 1));
        Check.same("place 5", 8, () -> x.cuts(0, 2));
        x.furnace(0);
        x.rest(4);
        Check.same("however hot", 6, () -> x.cuts(0, 0));
        x.twist(0, 1);
        Check.same("as it is now, with twist 2", 2, () -> x.cuts(0, 1));
        Check.same("with twist 2 no odd turn", -1, () -> x.cuts(0, 0));
        x.lay(0, 2, 1, 1, 6);
        Check.same("another pattern", -1, () -> x.cuts(0, 1));
        CaneSlices plain = new CaneSlices();
        plain.begin();
        plain.rest(10);
        Workshops.cutOff(plain, 0, 7);
        Check.same("the next one", 1, () -> plain.cuts(0, 0));
        plain.cut(0);
        Check.same("length 0", -1, () -> plain.cuts(0, 0));
    }

    private static void promise20CutsRefuses() {
        CaneSlices x = Workshops.marked(1);
        Check.noPlace("no slice yet", () -> x.cuts(0, 0));
        Workshops.cool(x);
        x.cut(0);
        for (int bad : WILD) {
            Check.noPlace("cane " + bad, () -> x.cuts(bad, 0));
            Check.noPlace("slice " + bad, () -> x.cuts(0, bad));
        }
        Check.noPlace("cane 1", () -> x.cuts(1, 0));
        Check.noPlace("slice 1", () -> x.cuts(0, 1));
    }

    /** Slices 0 to 7 of one look, 8 to 15 of another, none of them turned; and two beads. */
    private static CaneSlices twoKinds() {
        CaneSlices x = Workshops.marked(1);
        x.begin();
        x.furnace(1);
        x.lay(1, 0, 0, 1, 2);
        Workshops.cool(x);
        Workshops.cutOff(x, 0, 8);
        Workshops.cutOff(x, 1, 8);
        x.bead();
        x.bead();
        return x;
    }

    private static void promise21MendsKeeping() {
        CaneSlices x = twoKinds();
        Check.same("an empty bead", 4, () -> x.mends(0));
        x.set(0, 0, 0, 0);
        Check.same("keeps one", 3, () -> x.mends(0));
        x.set(0, 1, 8, 0);
        Check.same("keeps either", 3, () -> x.mends(0));
        x.set(0, 2, 1, 1);
        Check.same("the turned one is another look", 3, () -> x.mends(0));
        x.set(0, 3, 9, 0);
        Check.same("keeps two", 2, () -> x.mends(0));
        x.drop(0, 2);
        x.set(0, 2, 10, 0);
        Check.same("keeps three", 1, () -> x.mends(0));
        x.drop(0, 0);
        Check.same("an empty eye", 1, () -> x.mends(0));
        x.set(0, 0, 15, 0);
        Check.same("all alike", 0, () -> x.mends(0));
        Check.same("the other bead", 4, () -> x.mends(1));
        long before = x.digest();
        x.mends(0);
        x.mends(1);
        Check.same("unchanged", before, x::digest);
    }

    private static void promise21MendsAnew() {
        CaneSlices x = Workshops.marked(1);
        x.begin();
        Workshops.cool(x);
        x.bead();
        Check.same("no slices", -1, () -> x.mends(0));
        Workshops.cutOff(x, 0, 3);
        x.cut(1);
        Check.same("four, but not alike", -1, () -> x.mends(0));
        x.cut(1);
        x.set(0, 0, 0, 0);
        x.set(0, 1, 1, 1);
        Check.same("those of the bead are not used again", -1, () -> x.mends(0));
        Workshops.cutOff(x, 1, 2);
        // Now 3, 4, 5, 6 are plain and free, and 2 alone is free of those with a mark.
        Check.same("all anew, by another look", 4, () -> x.mends(0));
        x.cut(0);
        Check.same("still", 4, () -> x.mends(0));
        x.cut(0);
        Check.same("one of them can stay now", 3, () -> x.mends(0));
        x.bead();
        x.set(1, 0, 3, 0);
        x.set(1, 1, 2, 0);
        Check.same("those in other beads are not used", -1, () -> x.mends(0));
        Check.same("three of them are free for this one", 3, () -> x.mends(1));
    }

    private static void promise21MendsTurned() {
        CaneSlices x = Workshops.marked(1);
        x.twist(0, 1);
        Workshops.cool(x);
        x.bead();
        Workshops.cutOff(x, 0, 4);
        Check.same("free ones are turned", 4, () -> x.mends(0));
        x.set(0, 0, 0, 5);
        Check.same("to the look of the one that stays", 3, () -> x.mends(0));
        x.set(0, 1, 1, 0);
        Check.same("those that stay are not", -1, () -> x.mends(0));
        x.cut(0);
        Check.same("one of the two stays", 3, () -> x.mends(0));
        x.drop(0, 1);
        x.set(0, 1, 1, 6);
        Check.same("both stay", 2, () -> x.mends(0));
        x.set(0, 2, 2, 7);
        x.set(0, 3, 3, 1);
        Check.same("three stay", 1, () -> x.mends(0));
        x.drop(0, 3);
        x.set(0, 3, 3, 0);
        Check.same("turned alike", 0, () -> x.mends(0));
    }

    private static void promise21MendsLastBead() {
        CaneSlices x = twoKinds();
        for (int beads = 2; beads < 6; beads++) {
            x.bead();
        }
        Check.same("the last bead", 4, () -> x.mends(5));
        for (int eye = 0; eye < 4; eye++) {
            x.set(5, eye, eye, 2);
        }
        Check.same("it is mended", 0, () -> x.mends(5));
        x.set(4, 1, 4, 2);
        Check.same("the next bead's eye is not kept", 3, () -> x.mends(4));
    }

    private static void promise21MendsRefuses() {
        CaneSlices x = new CaneSlices();
        Check.noPlace("no bead", () -> x.mends(0));
        x.bead();
        for (int bad : WILD) {
            Check.noPlace("bead " + bad, () -> x.mends(bad));
        }
        Check.noPlace("bead 1", () -> x.mends(1));
        Check.noPlace("bead 6", () -> x.mends(6));
    }

    private static void promise22Mean() {
        CaneSlices x = new CaneSlices();
        Check.same("none", 0.0, x::mean);
        x.begin();
        Check.same("one", 10.0, x::mean);
        x.begin();
        x.lay(0, 0, 0, 1, 1);
        Check.same("8 and 9", 8.5, x::mean);
        x.begin();
        Check.same("8, 9 and 10", 9.0, x::mean);
        x.twist(0, 1);
        Check.same("6, 8 and 9", 23.0 / 3, x::mean);
        x.rest(60);
        Check.same("0, 0 and 0", 0.0, x::mean);
        x.furnace(1);
        x.rest(1);
        Check.same("0, 3 and 0", 1.0, x::mean);
    }

    private static void promise23Digest() {
        CaneSlices x = Workshops.marked(3);
        x.twist(0, -1);
        x.lay(0, 2, 7, 2, 5);
        x.begin();
        Workshops.cool(x);
        x.cut(0);
        x.cut(0);
        x.bead();
        x.bead();
        x.set(1, 2, 1, 6);
        long[] due = {991};
        for (int what = 0; what < 8; what++) {
            add(due, x.count(what));
        }
        for (int cane = 0; cane < 2; cane++) {
            for (int what = 0; what < 5; what++) {
                add(due, x.cane(cane, what));
            }
            for (int index = 0; index < 24; index++) {
                add(due, x.shows(cane, 0, index / 8, index % 8));
            }
        }
        for (int slice = 0; slice < 2; slice++) {
            for (int index = 0; index < 24; index++) {
                add(due, x.colour(slice, index / 8, index % 8));
            }
            add(due, slice == 0 ? -1 : 6);
        }
        for (int eye = 0; eye < 8; eye++) {
            add(due, eye == 6 ? 1 : -1);
            add(due, eye == 6 ? 6 : 0);
        }
        Check.same("digest", due[0], x::digest);
        Check.same("digest again", due[0], x::digest);
    }

    /** Numbers found by hand: 991 * 31 ^ 8 and, with one bead, what its parts add. */
    private static void promise23DigestOfNumbers() {
        CaneSlices x = new CaneSlices();
        Check.same("new", 845215018104031L, x::digest);
        x.bead();
        long sum = 845215018104031L + 31 * 31;
        for (int eye = 0; eye < 4; eye++) {
            sum = (sum * 31 - 1) * 31;
        }
        long due = sum;
        Check.same("with a bead", due, x::digest);
        x.begin();
        x.rest(10);
        x.cut(0);
        x.set(0, 1, 0, 7);
        long turned = x.digest();
        x.drop(0, 1);
        x.set(0, 1, 0, 6);
        Check.same("the turn is the eye's", turned - pow31(4), x::digest);
        x.drop(0, 1);
        x.set(0, 1, 0, 0);
        long unturned = x.digest();
        x.drop(0, 1);
        // One slice less in eyes (65 numbers follow), where() from 1 to -1, and the eye's from 0 to -1.
        long dropped = unturned - pow31(65) - 2 * pow31(8) - pow31(5);
        Check.same("an eye without a slice", dropped, x::digest);
        x.set(0, 1, 0, 7);
        x.drop(0, 1);
        Check.same("the turn goes with the slice", dropped, x::digest);
    }

    private static long pow31(int exponent) {
        long power = 1;
        for (int step = 0; step < exponent; step++) {
            power *= 31;
        }
        return power;
    }

    private static void add(long[] sum, int number) {
        sum[0] = sum[0] * 31 + number;
    }
}
