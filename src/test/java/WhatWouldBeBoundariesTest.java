import java.math.BigInteger;
import java.util.ArrayList;
import java.util.List;

/**
 * Promises 18 to 23: each sentence that names a boundary, quoted above its test. What throws, with
 * all arguments, stands in RefusedCallsTest.
 */
public final class WhatWouldBeBoundariesTest {
    public static void main(String[] args) {
        againPeriods();
        againOneColour();
        againTwiceRound();
        againPlaces();
        turnEach();
        turnLeast();
        turnNone();
        turnSlices();
        cutsFirstAndLast();
        cutsRound();
        cutsNone();
        cutsHoweverHot();
        cutsNumbers();
        mendsEachNumber();
        mendsEnoughOrOneLess();
        mendsBestNotLast();
        mendsOtherwise();
        mendsNotUsedAgain();
        mendsNotOutOfOtherBeads();
        mendsTurns();
        mendsEmptyBead();
        mendsBeads();
        meanOfNone();
        meanEdges();
        digestOfNothing();
        digestOfAll();
        digestWraps();
        Check.finish();
    }

    private static void noPlace(String label, CaneSlices x, Check.Call call) {
        Check.refusedUnchanged(label, x, IndexOutOfBoundsException.class, call);
    }

    /** Promise 18: "the next place behind it": round, for each twist; "-1 if there is none" */
    private static void againPeriods() {
        int[] periods = {2, 8, 4, 8, 1, 8, 4, 8, 2};
        for (int twist = -4; twist <= 4; twist++) {
            CaneSlices x = Workshops.numberedOf60();
            if (twist != 0) {
                x.twist(0, twist);
            }
            int period = periods[twist + 4];
            for (int place = 0; place < 60; place++) {
                int p = place;
                int due = place + period < 60 ? place + period : -1;
                Check.same("twist " + twist + ", place " + place, due, () -> x.again(0, p));
            }
        }
    }

    /** Promise 18: "would show the same": of one colour, each next place does */
    private static void againOneColour() {
        CaneSlices x = Workshops.withCanes(1);
        x.twist(0, 3);
        Check.same("the next place", 1, () -> x.again(0, 0));
        Check.same("the last place", 7, () -> x.again(0, 6));
        Check.same("none behind it", -1, () -> x.again(0, 7));
        x.lay(0, 2, 7, 1, 1);
        Check.same("with one other sector", -1, () -> x.again(0, 0));
        x.lay(0, 2, 7, 1, 0);
        Check.same("without it again", 1, () -> x.again(0, 0));
    }

    /** Promise 18: all rings have to be the same: with marks twice round, four times round, and once */
    private static void againTwiceRound() {
        CaneSlices x = Workshops.marked(1);
        x.twist(0, 1);
        for (int sector = 2; sector < 8; sector += 2) {
            x.lay(0, 0, sector, 1, 1);
        }
        Check.same("four times round", 2, () -> x.again(0, 0));
        x.lay(0, 1, 3, 1, 2);
        x.lay(0, 1, 7, 1, 2);
        Check.same("twice round", 4, () -> x.again(0, 0));
        x.lay(0, 2, 7, 1, 3);
        Check.same("once round", -1, () -> x.again(0, 0));
    }

    /** Promise 18: "Throws IndexOutOfBoundsException if there is no such cane or place" */
    private static void againPlaces() {
        CaneSlices x = Workshops.withCanes(2);
        Check.same("the last place", -1, () -> x.again(1, 7));
        for (int bad : new int[] {-1, 8, 60, Integer.MIN_VALUE, Integer.MAX_VALUE}) {
            noPlace("place " + bad, x, () -> x.again(1, bad));
            noPlace("cane " + bad, x, () -> x.again(bad, 0));
        }
        noPlace("cane 2", x, () -> x.again(2, 0));
        x.rest(10);
        Workshops.cutOff(x, 1, 7);
        Check.same("the only place", -1, () -> x.again(1, 0));
        x.cut(1);
        noPlace("no place left", x, () -> x.again(1, 0));
    }

    /** Promise 19: "the least turn, 0 to 7, by which the first one looks like the other one" */
    private static void turnEach() {
        CaneSlices x = Workshops.withSlices(8);
        for (int one = 0; one < 8; one++) {
            for (int other = 0; other < 8; other++) {
                int a = one;
                int b = other;
                // The place of the slice n is 7 - n, and the twist 1.
                Check.same("turn " + a + " to " + b, (a - b + 8) % 8, () -> x.turn(a, b));
            }
        }
    }

    /** Promise 19: "the least": of eight, of four, of two */
    private static void turnLeast() {
        CaneSlices plain = Workshops.with60Slices();
        Check.same("of eight", 0, () -> plain.turn(59, 0));
        for (int step : new int[] {2, 4}) {
            CaneSlices x = Workshops.marked(1);
            x.twist(0, 1);
            for (int sector = step; sector < 8; sector += step) {
                x.lay(0, 0, sector, 1, 1);
            }
            Workshops.cool(x);
            Workshops.cutOff(x, 0, 8);
            for (int slice = 0; slice < 8; slice++) {
                int s = slice;
                Check.same("every " + step + ", " + s, s % step, () -> x.turn(s, 0));
            }
        }
    }

    /** Promise 19: "-1 if there is none": one sector of one ring is enough, in any of them */
    private static void turnNone() {
        for (int spot = 0; spot < 24; spot++) {
            CaneSlices x = Workshops.withSlices(1);
            Workshops.heat(x, 0);
            x.lay(0, spot / 8, spot % 8, 1, 7);
            Workshops.cool(x);
            x.cut(0);
            Check.same("to the other one, " + spot, -1, () -> x.turn(0, 1));
            Check.same("and back, " + spot, -1, () -> x.turn(1, 0));
        }
    }

    /** Promise 19: "Throws IndexOutOfBoundsException if there is no such slice": either of them */
    private static void turnSlices() {
        CaneSlices none = Workshops.withSlices(0);
        noPlace("no slice yet", none, () -> none.turn(0, 0));
        CaneSlices x = Workshops.withSlices(3);
        Check.same("the last two", 1, () -> x.turn(2, 1));
        for (int bad : new int[] {-1, 3, 60, Integer.MIN_VALUE, Integer.MAX_VALUE}) {
            noPlace("slice " + bad, x, () -> x.turn(bad, 2));
            noPlace("other " + bad, x, () -> x.turn(2, bad));
            noPlace("both " + bad, x, () -> x.turn(bad, bad));
        }
    }

    /** Promise 20: "this cut counted": from 1 to the cane's whole length */
    private static void cutsFirstAndLast() {
        CaneSlices x = Workshops.numberedOfLength(7);
        Check.same("the next cut, 1", 1, () -> x.cuts(0, 0));
        Workshops.heat(x, 0);
        x.twist(0, 1);
        Check.same("the cut at the place 0", 7, () -> x.cuts(0, 0));
        CaneSlices gone = Workshops.withSlices(1);
        Check.same("the cut that was made", -1, () -> gone.cuts(0, 0));
    }

    /** Promise 20: "looks like this slice without a turn": the first of several, round */
    private static void cutsRound() {
        CaneSlices x = Workshops.numberedOf60();
        x.twist(0, -3);
        Workshops.cool(x);
        Workshops.cutOff(x, 0, 8);
        for (int slice = 0; slice < 8; slice++) {
            int s = slice;
            Check.same("like the slice " + s, s + 1, () -> x.cuts(0, s));
        }
        Workshops.cutOff(x, 0, 46);
        // The places 0 to 5 are left; the slice 44 is that of the place 15, which is 7 round.
        int[] due = {-1, -1, 1, 2, 3, 4, 5, 6};
        for (int nth = 0; nth < 8; nth++) {
            int n = nth;
            Check.same("of six places, " + n, due[n], () -> x.cuts(0, n + 44));
        }
    }

    /** Promise 20: "-1 if none does", as with no place at all */
    private static void cutsNone() {
        CaneSlices x = Workshops.withHeat(0);
        Workshops.cutOff(x, 0, 7);
        Check.same("one place", 1, () -> x.cuts(0, 6));
        x.cut(0);
        Check.same("no place", -1, () -> x.cuts(0, 7));
        CaneSlices turned = Workshops.withSlices(1);
        Workshops.heat(turned, 0);
        turned.twist(0, -1);
        Check.same("only with a turn", -1, () -> turned.cuts(0, 0));
        turned.lay(0, 0, 0, 1, 0);
        Check.same("with no turn", -1, () -> turned.cuts(0, 0));
    }

    /** Promise 20: "as it is", "(however hot it is)": also cracked, and with 60 slices */
    private static void cutsHoweverHot() {
        for (int heat = 0; heat <= 10; heat++) {
            CaneSlices x = Workshops.withHeat(0);
            x.cut(0);
            x.begin();
            if (heat < 10) {
                x.rest(10 - heat);
            }
            Check.same("with heat " + heat, 1, () -> x.cuts(1, 0));
        }
        CaneSlices cracked = Workshops.withHeat(0);
        cracked.cut(0);
        cracked.pull(0);
        Check.same("a cracked one", 1, () -> cracked.cuts(0, 0));
        CaneSlices full = Workshops.with60Slices();
        Check.same("with 60 slices", 1, () -> full.cuts(7, 59));
    }

    /** Promise 20: "Throws IndexOutOfBoundsException if there is no such cane or slice" */
    private static void cutsNumbers() {
        CaneSlices none = Workshops.withCanes(1);
        noPlace("no slice yet", none, () -> none.cuts(0, 0));
        CaneSlices x = Workshops.with60Slices();
        for (int bad : new int[] {-1, 8, 60, Integer.MIN_VALUE, Integer.MAX_VALUE}) {
            noPlace("cane " + bad, x, () -> x.cuts(bad, 0));
        }
        for (int bad : new int[] {-1, 60, Integer.MIN_VALUE, Integer.MAX_VALUE}) {
            noPlace("slice " + bad, x, () -> x.cuts(0, bad));
        }
        CaneSlices one = Workshops.withSlices(1);
        noPlace("cane 1", one, () -> one.cuts(1, 0));
        noPlace("slice 1", one, () -> one.cuts(0, 1));
    }

    /**
     * Slices of two looks, none of them turned, and six beads: first so many with the colour 1, then
     * so many with the colour 2, at most 8 of each.
     */
    private static CaneSlices twoLooks(int ones, int twos) {
        CaneSlices x = Workshops.marked(1);
        x.begin();
        x.furnace(1);
        x.lay(1, 0, 0, 1, 2);
        Workshops.cool(x);
        Workshops.cutOff(x, 0, ones);
        Workshops.cutOff(x, 1, twos);
        Workshops.beads(x, 6);
        return x;
    }

    /** Promise 21: "in how few eyes slices have to be set anew", 0 to 4, for each choice of eyes */
    private static void mendsEachNumber() {
        for (int eyes = 0; eyes < 16; eyes++) {
            CaneSlices x = twoLooks(8, 0);
            int kept = Integer.bitCount(eyes);
            for (int eye = 0; eye < 4; eye++) {
                if ((eyes >> eye & 1) == 1) {
                    x.set(3, eye, eye, 5);
                }
            }
            Check.same("eyes kept: " + eyes, 4 - kept, () -> x.mends(3));
        }
    }

    /** Promise 21: "-1 if this cannot be": with as many free slices as are missing, and one less */
    private static void mendsEnoughOrOneLess() {
        for (int kept = 0; kept <= 4; kept++) {
            int missing = 4 - kept;
            CaneSlices enough = twoLooks(4, 3);
            CaneSlices less = twoLooks(Math.max(kept, 3), 3);
            for (int eye = 0; eye < kept; eye++) {
                enough.set(0, eye, eye, 0);
                less.set(0, eye, eye, 0);
            }
            Check.same("enough, " + kept, missing, () -> enough.mends(0));
            Check.same("one less, " + kept, kept == 4 ? 0 : -1, () -> less.mends(0));
        }
    }

    /** Promise 21: "in how few eyes": the best look may be that of any eye, and need not be the last */
    private static void mendsBestNotLast() {
        int[][] looks = {
            {1, 1, 2, 0}, {1, 1, 0, 2}, {2, 1, 1, 0}, {0, 2, 1, 1}, {1, 2, 0, 1}, {1, 1, 1, 2}, {2, 1, 1, 1}
        };
        for (int[] look : looks) {
            CaneSlices x = twoLooks(8, 8);
            int kept = 0;
            for (int eye = 0; eye < 4; eye++) {
                if (look[eye] != 0) {
                    x.set(0, eye, look[eye] == 1 ? eye : 8 + eye, 0);
                }
                kept += look[eye] == 1 ? 1 : 0;
            }
            int due = 4 - kept;
            Check.same("the better of two looks", due, () -> x.mends(0));
        }
    }

    /** Promise 21: "(as one of them looks now, or otherwise)": with four free slices, not with three */
    private static void mendsOtherwise() {
        for (int twos = 3; twos <= 4; twos++) {
            CaneSlices x = twoLooks(3, twos);
            x.set(0, 0, 0, 0);
            x.set(0, 1, 1, 1);
            x.set(0, 2, 2, 2);
            Check.same("otherwise, with " + twos, twos == 4 ? 4 : -1, () -> x.mends(0));
        }
        CaneSlices rather = twoLooks(4, 8);
        rather.set(0, 0, 0, 0);
        Check.same("rather as one looks now", 3, () -> rather.mends(0));
    }

    /** Promise 21: "(those that fall out of this bead are not used again)" */
    private static void mendsNotUsedAgain() {
        CaneSlices x = twoLooks(5, 0);
        for (int eye = 0; eye < 4; eye++) {
            x.set(0, eye, eye, eye % 2);
        }
        Check.same("two and two, one free", -1, () -> x.mends(0));
        x.cut(0);
        Check.same("two and two, two free", 2, () -> x.mends(0));
        x.drop(0, 3);
        Check.same("one fell out before: it is free", 2, () -> x.mends(0));
        x.set(0, 3, 3, 0);
        Check.same("set as most are", 1, () -> x.mends(0));
    }

    /** Promise 21: "out of those that are in no eye": not out of another bead */
    private static void mendsNotOutOfOtherBeads() {
        CaneSlices x = twoLooks(4, 0);
        Check.same("four free", 4, () -> x.mends(5));
        x.set(0, 0, 3, 0);
        Check.same("three free", -1, () -> x.mends(5));
        Check.same("three free are enough here", 3, () -> x.mends(0));
        x.drop(0, 0);
        Check.same("four again", 4, () -> x.mends(5));
    }

    /** Promise 21: "those that stay are not turned", but those that are set anew are, round */
    private static void mendsTurns() {
        for (int turn = 0; turn < 8; turn++) {
            CaneSlices x = Workshops.withSlices(8);
            x.bead();
            x.set(0, 3, 0, turn);
            Check.same("free ones are turned to it", 3, () -> x.mends(0));
            for (int eye = 0; eye < 3; eye++) {
                // The slice 4 + eye looks like the slice 0 when it is turned by 4 + eye.
                x.set(0, eye, 4 + eye, (turn + 4 + eye) % 8);
                int due = 2 - eye;
                Check.same("turned alike", due, () -> x.mends(0));
            }
            x.drop(0, 1);
            x.set(0, 1, 5, (turn + 6) % 8);
            Check.same("turned by one too many", 1, () -> x.mends(0));
        }
    }

    /** Promise 21: "-1 if this cannot be": a bead without slices, and none, three or four free */
    private static void mendsEmptyBead() {
        Check.same("no slice", -1, () -> twoLooks(0, 0).mends(0));
        Check.same("three", -1, () -> twoLooks(3, 0).mends(0));
        Check.same("three and three", -1, () -> twoLooks(3, 3).mends(0));
        Check.same("four", 4, () -> twoLooks(4, 0).mends(0));
        Check.same("the last four", 4, () -> twoLooks(3, 4).mends(0));
        CaneSlices most = Workshops.with60Slices();
        Workshops.beads(most, 6);
        for (int index = 0; index < 20; index++) {
            most.set(index / 4, index % 4, index, 0);
        }
        Check.same("with all else full", 4, () -> most.mends(5));
        Check.same("a full one", 0, () -> most.mends(4));
    }

    /** Promise 21: "Throws IndexOutOfBoundsException if there is no such bead" */
    private static void mendsBeads() {
        CaneSlices x = Workshops.withSlices(4);
        noPlace("no bead yet", x, () -> x.mends(0));
        Workshops.beads(x, 1);
        Check.same("the first one", 4, () -> x.mends(0));
        noPlace("the second of one", x, () -> x.mends(1));
        Workshops.beads(x, 5);
        Check.same("the last one", 4, () -> x.mends(5));
        for (int bad : new int[] {-1, 6, Integer.MIN_VALUE, Integer.MAX_VALUE}) {
            noPlace("bead " + bad, x, () -> x.mends(bad));
        }
    }

    /** Promise 22: "0 if there are none" */
    private static void meanOfNone() {
        CaneSlices x = new CaneSlices();
        Check.same("none", 0.0, x::mean);
        x.rest(60);
        x.bead();
        Check.same("still none", 0.0, x::mean);
        x.begin();
        Check.same("one", 10.0, x::mean);
    }

    /** Promise 22: "the mean heat of all canes": the least, the most, and no whole number */
    private static void meanEdges() {
        CaneSlices x = Workshops.withCanes(8);
        Check.same("all 10", 10.0, x::mean);
        x.rest(60);
        Check.same("all 0", 0.0, x::mean);
        x.furnace(7);
        x.rest(1);
        Check.same("3 of 8", 0.375, x::mean);
        CaneSlices three = Workshops.withCanes(3);
        three.rest(9);
        three.furnace(0);
        three.rest(3);
        Check.same("10 and no more", 10.0 / 3, three::mean);
        CaneSlices cracked = Workshops.withHeat(5);
        cracked.pull(0);
        Workshops.heat(cracked, 0);
        Check.same("a cracked one", 10.0, cracked::mean);
    }

    /** Promise 23: "starts with 991": with no cane, slice or bead only the eight counts are added */
    private static void digestOfNothing() {
        Check.same("new", digestOf(new int[8]), new CaneSlices()::digest);
        CaneSlices x = new CaneSlices();
        x.rest(60);
        Check.same("an hour on", digestOf(new int[] {60, 0, 0, 0, 0, 0, 0, 0}), x::digest);
    }

    /** As the document tells it, but with no bound to the number, and wrapped at the end only. */
    private static long digestOf(int[] numbers) {
        return exactDigestOf(numbers).longValue();
    }

    private static BigInteger exactDigestOf(int[] numbers) {
        BigInteger sum = BigInteger.valueOf(991);
        for (int number : numbers) {
            sum = sum.multiply(BigInteger.valueOf(31)).add(BigInteger.valueOf(number));
        }
        return sum;
    }

    /** Eight canes, 60 slices and six beads, with no two canes alike and eyes with and without slices. */
    private static CaneSlices allOfIt() {
        CaneSlices x = Workshops.withCanes(8);
        for (int cane = 0; cane < 8; cane++) {
            Workshops.heat(x, cane);
            x.lay(cane, cane % 3, cane, 1 + cane / 2, 7 - cane);
            x.twist(cane, cane < 4 ? cane - 4 : cane - 3);
        }
        x.furnace(7);
        x.rest(10);
        for (int slice = 0; slice < 56; slice++) {
            x.cut(slice % 7);
        }
        x.rest(1);
        x.lay(6, 0, 0, 1, 1);
        x.furnace(-1);
        x.rest(10);
        Workshops.cutOff(x, 7, 4);
        x.furnace(5);
        Workshops.beads(x, 6);
        for (int index = 0; index < 24; index++) {
            if (index % 3 != 1) {
                x.set(index / 4, index % 4, 59 - 2 * index, (3 * index) % 8);
            }
        }
        return x;
    }

    /** Promise 23: all the numbers, with as much of each as there can be */
    private static void digestOfAll() {
        List<Integer> numbers = new ArrayList<>();
        CaneSlices x = allOfIt();
        for (int what = 0; what < 8; what++) {
            numbers.add(x.count(what));
        }
        for (int cane = 0; cane < 8; cane++) {
            for (int what = 0; what < 5; what++) {
                numbers.add(x.cane(cane, what));
            }
            addPatternOfCane(numbers, cane);
        }
        for (int slice = 0; slice < 60; slice++) {
            CaneSlices asked = allOfIt();
            for (int spot = 0; spot < 24; spot++) {
                numbers.add(asked.colour(slice, spot / 8, spot % 8));
            }
            numbers.add(asked.where(slice));
        }
        for (int index = 0; index < 24; index++) {
            boolean filled = index % 3 != 1;
            numbers.add(filled ? 59 - 2 * index : -1);
            numbers.add(filled ? (3 * index) % 8 : 0);
        }
        Check.same("how many", 8 + 8 * 29 + 60 * 25 + 24 * 2, numbers::size);
        Check.same("digest", digestOf(toArray(numbers)), allOfIt()::digest);
        Check.same("the same for another object", allOfIt().digest(), allOfIt()::digest);
    }

    private static int[] toArray(List<Integer> numbers) {
        return numbers.stream().mapToInt(Integer::intValue).toArray();
    }

    /** The canes 0 to 6 have no place left to show it: their patterns are told as they were laid. */
    private static void addPatternOfCane(List<Integer> numbers, int cane) {
        for (int spot = 0; spot < 24; spot++) {
            boolean laid = spot / 8 == cane % 3 && (spot % 8 + 8 - cane) % 8 < 1 + cane / 2;
            numbers.add(laid ? 7 - cane : 0);
        }
    }

    /** Promise 23: "which wraps around as a 64-bit integer", to less than 0 too */
    private static void digestWraps() {
        boolean below = false;
        for (int minutes = 1; minutes <= 60; minutes++) {
            CaneSlices x = Workshops.withCanes(1);
            x.furnace(0);
            x.rest(minutes);
            int[] numbers = new int[8 + 5 + 24];
            int[] counts = {minutes, 1, 1, 0, 0, 0, 0, 8, 8, 0, 10, 1, 1};
            System.arraycopy(counts, 0, numbers, 0, counts.length);
            long due = digestOf(numbers);
            Check.same("minute " + minutes, due, x::digest);
            Check.same("too great for 64 bits", true, () -> exactDigestOf(numbers).bitLength() > 64);
            below = below || due < 0;
        }
        boolean some = below;
        Check.same("some are less than 0", true, () -> some);
    }
}
