import java.util.ArrayList;
import java.util.Arrays;
import java.util.List;

/**
 * The document once more, in the plainest way: patterns are copied to be turned and compared
 * whole, and mends() tries every choice of eyes to keep.
 */
final class PlainWorkshop {
    private static final class PlainCane {
        int[][] pattern = new int[3][8];
        int length = 8;
        int twist = 0;
        int heat = 10;
        boolean whole = true;

        int[][] at(int place) {
            return turned(pattern, twist * place);
        }
    }

    private static final class PlainSlice {
        int[][] pattern;
    }

    private static final class PlainEye {
        int slice = -1;
        int turn = 0;
    }

    private final List<PlainCane> canes = new ArrayList<>();
    private final List<PlainSlice> slices = new ArrayList<>();
    private final List<PlainEye[]> beads = new ArrayList<>();
    private int furnace = -1;
    private int minute = 0;

    private static int[][] turned(int[][] pattern, int by) {
        int[][] result = new int[3][8];
        for (int ring = 0; ring < 3; ring++) {
            for (int sector = 0; sector < 8; sector++) {
                result[ring][(((sector + by) % 8) + 8) % 8] = pattern[ring][sector];
            }
        }
        return result;
    }

    private static boolean same(int[][] one, int[][] other) {
        return Arrays.deepEquals(one, other);
    }

    private static boolean in(int number, int least, int most) {
        return number >= least && number <= most;
    }

    private void needPlace(boolean right) {
        if (!right) {
            throw new IndexOutOfBoundsException();
        }
    }

    private void needArgument(boolean right) {
        if (!right) {
            throw new IllegalArgumentException();
        }
    }

    private void needState(boolean right) {
        if (!right) {
            throw new IllegalStateException();
        }
    }

    private boolean isCane(int cane) {
        return in(cane, 0, canes.size() - 1);
    }

    private boolean isSlice(int slice) {
        return in(slice, 0, slices.size() - 1);
    }

    private boolean isEye(int bead, int eye) {
        return in(bead, 0, beads.size() - 1) && in(eye, 0, 3);
    }

    private static boolean isSpot(int ring, int sector) {
        return in(ring, 0, 2) && in(sector, 0, 7);
    }

    private void tick() {
        minute++;
        for (int cane = 0; cane < canes.size(); cane++) {
            PlainCane c = canes.get(cane);
            if (cane == furnace) {
                c.heat = Math.min(10, c.heat + 3);
            } else {
                c.heat = Math.max(0, c.heat - 1);
            }
        }
    }

    private boolean work(PlainCane cane, int least, Runnable change) {
        boolean done = cane.heat >= least;
        if (done) {
            cane.heat--;
            change.run();
        } else {
            cane.whole = false;
        }
        tick();
        return done;
    }

    int begin() {
        needState(canes.size() < 8);
        canes.add(new PlainCane());
        return canes.size() - 1;
    }

    boolean lay(int cane, int ring, int first, int sectors, int colour) {
        needPlace(isCane(cane));
        needArgument(isSpot(ring, first) && in(sectors, 1, 8) && in(colour, 0, 7));
        PlainCane c = canes.get(cane);
        needState(c.whole);
        return work(c, 2, () -> {
            for (int sector = first; sector < first + sectors; sector++) {
                c.pattern[ring][sector % 8] = colour;
            }
        });
    }

    boolean twist(int cane, int by) {
        needPlace(isCane(cane));
        needArgument(by != 0 && in(by, -4, 4));
        PlainCane c = canes.get(cane);
        needState(c.whole && in(c.twist + by, -4, 4));
        return work(c, 4, () -> c.twist += by);
    }

    boolean pull(int cane) {
        needPlace(isCane(cane));
        PlainCane c = canes.get(cane);
        needState(c.whole);
        return work(c, 6, () -> {
            c.length = c.length > 30 ? 60 : c.length * 2;
            c.twist = c.twist < 0 ? -(-c.twist / 2) : c.twist / 2;
        });
    }

    int furnace(int cane) {
        needPlace(cane == -1 || isCane(cane));
        int was = furnace;
        furnace = cane;
        return was;
    }

    int rest(int minutes) {
        needArgument(in(minutes, 1, 60));
        for (int i = 0; i < minutes; i++) {
            tick();
        }
        return canes.stream().mapToInt(c -> c.heat).sum();
    }

    int cut(int cane) {
        needPlace(isCane(cane));
        PlainCane c = canes.get(cane);
        needState(c.length > 0 && c.heat <= 3 && slices.size() < 60);
        PlainSlice slice = new PlainSlice();
        slice.pattern = c.at(c.length - 1);
        slices.add(slice);
        c.length--;
        return slices.size() - 1;
    }

    int cane(int cane, int what) {
        needPlace(isCane(cane) && in(what, 0, 4));
        PlainCane c = canes.get(cane);
        int[] all = {c.length, c.twist, c.heat, c.whole ? 1 : 0, furnace == cane ? 1 : 0};
        return all[what];
    }

    int shows(int cane, int place, int ring, int sector) {
        needPlace(isCane(cane) && in(place, 0, canes.get(cane).length - 1) && isSpot(ring, sector));
        return canes.get(cane).at(place)[ring][sector];
    }

    int colour(int slice, int ring, int sector) {
        needPlace(isSlice(slice) && isSpot(ring, sector));
        return slices.get(slice).pattern[ring][sector];
    }

    int where(int slice) {
        needPlace(isSlice(slice));
        for (int bead = 0; bead < beads.size(); bead++) {
            for (int eye = 0; eye < 4; eye++) {
                if (beads.get(bead)[eye].slice == slice) {
                    return 4 * bead + eye;
                }
            }
        }
        return -1;
    }

    int bead() {
        needState(beads.size() < 6);
        beads.add(new PlainEye[] {new PlainEye(), new PlainEye(), new PlainEye(), new PlainEye()});
        return beads.size() - 1;
    }

    private int filled(int bead) {
        return (int) Arrays.stream(beads.get(bead)).filter(e -> e.slice != -1).count();
    }

    int set(int bead, int eye, int slice, int turn) {
        needPlace(isEye(bead, eye) && isSlice(slice));
        needArgument(in(turn, 0, 7));
        PlainEye e = beads.get(bead)[eye];
        needState(e.slice == -1 && where(slice) == -1);
        e.slice = slice;
        e.turn = turn;
        return filled(bead);
    }

    int drop(int bead, int eye) {
        needPlace(isEye(bead, eye));
        PlainEye e = beads.get(bead)[eye];
        needState(e.slice != -1);
        int was = e.slice;
        e.slice = -1;
        e.turn = 0;
        return was;
    }

    /** null without a slice */
    private int[][] look(int bead, int eye) {
        PlainEye e = beads.get(bead)[eye];
        return e.slice == -1 ? null : turned(slices.get(e.slice).pattern, e.turn);
    }

    int seen(int bead, int eye, int ring, int sector) {
        needPlace(isEye(bead, eye) && isSpot(ring, sector));
        int[][] look = look(bead, eye);
        return look == null ? -1 : look[ring][sector];
    }

    private boolean isMended(int bead) {
        for (int eye = 0; eye < 4; eye++) {
            if (look(bead, eye) == null || !same(look(bead, eye), look(bead, 0))) {
                return false;
            }
        }
        return true;
    }

    int count(int what) {
        needPlace(in(what, 0, 7));
        int mended = 0;
        int set = 0;
        for (int bead = 0; bead < beads.size(); bead++) {
            mended += isMended(bead) ? 1 : 0;
            set += filled(bead);
        }
        int whole = (int) canes.stream().filter(c -> c.whole).count();
        int length = canes.stream().mapToInt(c -> c.length).sum();
        int[] all = {minute, canes.size(), whole, slices.size(), set, beads.size(), mended, length};
        return all[what];
    }

    int again(int cane, int place) {
        needPlace(isCane(cane) && in(place, 0, canes.get(cane).length - 1));
        PlainCane c = canes.get(cane);
        for (int next = place + 1; next < c.length; next++) {
            if (same(c.at(next), c.at(place))) {
                return next;
            }
        }
        return -1;
    }

    private static int turnBetween(int[][] one, int[][] other) {
        for (int by = 0; by < 8; by++) {
            if (same(turned(one, by), other)) {
                return by;
            }
        }
        return -1;
    }

    int turn(int slice, int other) {
        needPlace(isSlice(slice) && isSlice(other));
        return turnBetween(slices.get(slice).pattern, slices.get(other).pattern);
    }

    int cuts(int cane, int slice) {
        needPlace(isCane(cane) && isSlice(slice));
        PlainCane c = canes.get(cane);
        for (int place = c.length - 1; place >= 0; place--) {
            if (same(c.at(place), slices.get(slice).pattern)) {
                return c.length - place;
            }
        }
        return -1;
    }

    private int freeLike(int[][] target) {
        int found = 0;
        for (int slice = 0; slice < slices.size(); slice++) {
            if (where(slice) == -1 && turnBetween(slices.get(slice).pattern, target) != -1) {
                found++;
            }
        }
        return found;
    }

    /** Whether the eyes of the set can stay and the others be set anew, to look like this. */
    private boolean canMend(int bead, int kept, int[][] target) {
        int anew = 4 - Integer.bitCount(kept);
        for (int eye = 0; eye < 4; eye++) {
            boolean stays = (kept >> eye & 1) == 1;
            if (stays && (look(bead, eye) == null || !same(look(bead, eye), target))) {
                return false;
            }
        }
        return freeLike(target) >= anew;
    }

    int mends(int bead) {
        needPlace(isEye(bead, 0));
        List<int[][]> targets = new ArrayList<>();
        for (int eye = 0; eye < 4; eye++) {
            if (look(bead, eye) != null) {
                targets.add(look(bead, eye));
            }
        }
        for (PlainSlice slice : slices) {
            targets.add(slice.pattern);
        }
        int best = -1;
        for (int kept = 0; kept < 16; kept++) {
            int anew = 4 - Integer.bitCount(kept);
            for (int[][] target : targets) {
                if ((best == -1 || anew < best) && canMend(bead, kept, target)) {
                    best = anew;
                }
            }
        }
        return best;
    }

    double mean() {
        double sum = canes.stream().mapToInt(c -> c.heat).sum();
        return canes.isEmpty() ? 0 : sum / canes.size();
    }

    long digest() {
        List<Integer> numbers = new ArrayList<>();
        for (int what = 0; what < 8; what++) {
            numbers.add(count(what));
        }
        for (int cane = 0; cane < canes.size(); cane++) {
            for (int what = 0; what < 5; what++) {
                numbers.add(cane(cane, what));
            }
            Arrays.stream(canes.get(cane).pattern).flatMapToInt(Arrays::stream).forEach(numbers::add);
        }
        for (int slice = 0; slice < slices.size(); slice++) {
            Arrays.stream(slices.get(slice).pattern).flatMapToInt(Arrays::stream).forEach(numbers::add);
            numbers.add(where(slice));
        }
        for (PlainEye[] bead : beads) {
            for (PlainEye eye : bead) {
                numbers.add(eye.slice);
                numbers.add(eye.turn);
            }
        }
        long d = 991;
        for (int x : numbers) {
            d = d * 31 + x;
        }
        return d;
    }
}
