/**
 * A glassblowers' workshop: canes with patterns, slices cut off them, and beads with slices as
 * eyes. See README.md for how it is used.
 */
public final class CaneSlices {
    private static final int NONE = -1;

    private static final int RINGS = 3;
    private static final int SECTORS = 8;
    private static final int COLOURS = 8;

    private static final int MOST_CANES = 8;
    private static final int MOST_SLICES = 60;
    private static final int MOST_BEADS = 6;
    private static final int EYES = 4;

    private static final int FIRST_LENGTH = 8;
    private static final int MOST_LENGTH = 60;
    private static final int MOST_TWIST = 4;

    private static final int MOST_HEAT = 10;
    private static final int FURNACE_HEAT = 3;
    private static final int HEAT_TO_LAY = 2;
    private static final int HEAT_TO_TWIST = 4;
    private static final int HEAT_TO_PULL = 6;
    private static final int MOST_HEAT_TO_CUT = 3;
    private static final int MOST_REST = 60;

    private static final int WHATS_OF_CANE = 5;
    private static final int WHATS_OF_COUNT = 8;

    private static final long DIGEST_START = 991;
    private static final long DIGEST_FACTOR = 31;

    private final Cane[] canes;
    private final Slice[] slices;
    /** By 4 * bead + eye, which is also how where() tells an eye. */
    private final Slice[] eyes;
    private int caneCount;
    private int sliceCount;
    private int beadCount;
    private int inFurnace;
    private int minute;

    public CaneSlices() {
        canes = new Cane[MOST_CANES];
        slices = new Slice[MOST_SLICES];
        eyes = new Slice[MOST_BEADS * EYES];
        inFurnace = NONE;
    }

    // ---- canes

    public int begin() throws IllegalStateException {
        if (caneCount >= MOST_CANES) {
            throw new IllegalStateException("there are 8 canes");
        }
        int number = caneCount;
        canes[number] = new Cane();
        caneCount++;
        return number;
    }

    public boolean lay(int cane, int ring, int first, int sectors, int colour)
            throws IndexOutOfBoundsException, IllegalArgumentException, IllegalStateException {
        Cane worked = caneAt(cane);
        if (worked == null) {
            throw new IndexOutOfBoundsException("no such cane");
        }
        if (!isRing(ring) || !isSector(first)) {
            throw new IllegalArgumentException("no such ring or sector");
        }
        if (sectors < 1 || sectors > SECTORS || colour < 0 || colour >= COLOURS) {
            throw new IllegalArgumentException("not 1 to 8 sectors, or no such colour");
        }
        if (worked.cracked) {
            throw new IllegalStateException("the cane is cracked");
        }
        boolean done = worked.startWorking(HEAT_TO_LAY);
        if (done) {
            worked.pattern.paint(ring, first, sectors, colour);
        }
        passMinute();
        return done;
    }

    public boolean twist(int cane, int by)
            throws IndexOutOfBoundsException, IllegalArgumentException, IllegalStateException {
        Cane worked = caneAt(cane);
        if (worked == null) {
            throw new IndexOutOfBoundsException("no such cane");
        }
        if (by == 0 || !isTwist(by)) {
            throw new IllegalArgumentException("by is 0, or not -4 to 4");
        }
        // A cane too cold to be twisted is refused too, not cracked, where its twist would not fit:
        // an exception that applies comes before anything is done.
        if (worked.cracked || !isTwist(worked.twist + by)) {
            throw new IllegalStateException("the cane is cracked, or would be twisted too far");
        }
        boolean done = worked.startWorking(HEAT_TO_TWIST);
        if (done) {
            worked.twist += by;
        }
        passMinute();
        return done;
    }

    public boolean pull(int cane) throws IndexOutOfBoundsException, IllegalStateException {
        Cane worked = caneAt(cane);
        if (worked == null) {
            throw new IndexOutOfBoundsException("no such cane");
        }
        if (worked.cracked) {
            throw new IllegalStateException("the cane is cracked");
        }
        boolean done = worked.startWorking(HEAT_TO_PULL);
        if (done) {
            worked.stretch();
        }
        passMinute();
        return done;
    }

    public int furnace(int cane) throws IndexOutOfBoundsException {
        if (cane != NONE && caneAt(cane) == null) {
            throw new IndexOutOfBoundsException("no such cane");
        }
        int before = inFurnace;
        inFurnace = cane;
        return before;
    }

    public int rest(int minutes) throws IllegalArgumentException {
        if (minutes < 1 || minutes > MOST_REST) {
            throw new IllegalArgumentException("not 1 to 60 minutes");
        }
        for (int gone = 0; gone < minutes; gone++) {
            passMinute();
        }
        return heatOfAll();
    }

    public int cut(int cane) throws IndexOutOfBoundsException, IllegalStateException {
        Cane shortened = caneAt(cane);
        if (shortened == null) {
            throw new IndexOutOfBoundsException("no such cane");
        }
        if (shortened.length == 0 || shortened.heat > MOST_HEAT_TO_CUT) {
            throw new IllegalStateException("the cane is used up, or too hot");
        }
        if (sliceCount >= MOST_SLICES) {
            throw new IllegalStateException("there are 60 slices");
        }
        int number = sliceCount;
        Pattern shown = shortened.pattern.turned(shortened.turnAt(shortened.length - 1));
        slices[number] = new Slice(number, shown, kindOf(shown));
        sliceCount++;
        shortened.length--;
        return number;
    }

    public int cane(int cane, int what) throws IndexOutOfBoundsException {
        Cane told = caneAt(cane);
        if (told == null || what < 0 || what >= WHATS_OF_CANE) {
            throw new IndexOutOfBoundsException("no such cane, or what is not 0 to 4");
        }
        return told.tell(what, cane == inFurnace);
    }

    public int shows(int cane, int place, int ring, int sector) throws IndexOutOfBoundsException {
        Cane shown = caneAt(cane);
        if (shown == null || !shown.hasPlace(place) || !isRing(ring) || !isSector(sector)) {
            throw new IndexOutOfBoundsException("no such cane, place, ring or sector");
        }
        return shown.pattern.colourAt(ring, sector, shown.turnAt(place));
    }

    // ---- slices and beads

    public int colour(int slice, int ring, int sector) throws IndexOutOfBoundsException {
        Slice looked = sliceAt(slice);
        if (looked == null || !isRing(ring) || !isSector(sector)) {
            throw new IndexOutOfBoundsException("no such slice, ring or sector");
        }
        return looked.pattern.colourAt(ring, sector, 0);
    }

    public int where(int slice) throws IndexOutOfBoundsException {
        Slice sought = sliceAt(slice);
        if (sought == null) {
            throw new IndexOutOfBoundsException("no such slice");
        }
        return sought.eye;
    }

    public int bead() throws IllegalStateException {
        if (beadCount >= MOST_BEADS) {
            throw new IllegalStateException("there are 6 beads");
        }
        int number = beadCount;
        beadCount++;
        return number;
    }

    public int set(int bead, int eye, int slice, int turn)
            throws IndexOutOfBoundsException, IllegalArgumentException, IllegalStateException {
        Slice taken = sliceAt(slice);
        if (!isBead(bead) || !isEye(eye) || taken == null) {
            throw new IndexOutOfBoundsException("no such bead, eye or slice");
        }
        if (!isSector(turn)) {
            throw new IllegalArgumentException("not turned by 0 to 7 sectors");
        }
        int index = EYES * bead + eye;
        if (eyes[index] != null || !taken.isFree()) {
            throw new IllegalStateException("the eye has a slice, or the slice is in an eye");
        }
        eyes[index] = taken;
        taken.enter(index, turn);
        return filledEyes(bead);
    }

    public int drop(int bead, int eye) throws IndexOutOfBoundsException, IllegalStateException {
        if (!isBead(bead) || !isEye(eye)) {
            throw new IndexOutOfBoundsException("no such bead or eye");
        }
        int index = EYES * bead + eye;
        Slice fallen = eyes[index];
        if (fallen == null) {
            throw new IllegalStateException("the eye has no slice");
        }
        eyes[index] = null;
        fallen.leave();
        return fallen.number;
    }

    public int seen(int bead, int eye, int ring, int sector) throws IndexOutOfBoundsException {
        if (!isBead(bead) || !isEye(eye) || !isRing(ring) || !isSector(sector)) {
            throw new IndexOutOfBoundsException("no such bead, eye, ring or sector");
        }
        Slice looked = eyes[EYES * bead + eye];
        return looked == null ? NONE : looked.pattern.colourAt(ring, sector, looked.turn);
    }

    public int count(int what) throws IndexOutOfBoundsException {
        if (what < 0 || what >= WHATS_OF_COUNT) {
            throw new IndexOutOfBoundsException("what is not 0 to 7");
        }
        return tally(what);
    }

    // ---- what would be

    public int again(int cane, int place) throws IndexOutOfBoundsException {
        Cane shown = caneAt(cane);
        if (shown == null || !shown.hasPlace(place)) {
            throw new IndexOutOfBoundsException("no such cane or place");
        }
        for (int next = place + 1; next < shown.length; next++) {
            if (shown.pattern.looksLike(shown.pattern, shown.turnAt(next - place))) {
                return next;
            }
        }
        return NONE;
    }

    public int turn(int slice, int other) throws IndexOutOfBoundsException {
        Slice turned = sliceAt(slice);
        Slice model = sliceAt(other);
        if (turned == null || model == null) {
            throw new IndexOutOfBoundsException("no such slice");
        }
        return turned.pattern.leastTurnTo(model.pattern);
    }

    public int cuts(int cane, int slice) throws IndexOutOfBoundsException {
        Cane shown = caneAt(cane);
        Slice model = sliceAt(slice);
        if (shown == null || model == null) {
            throw new IndexOutOfBoundsException("no such cane or slice");
        }
        for (int made = 1; made <= shown.length; made++) {
            if (shown.pattern.looksLike(model.pattern, shown.turnAt(shown.length - made))) {
                return made;
            }
        }
        return NONE;
    }

    public int mends(int bead) throws IndexOutOfBoundsException {
        if (!isBead(bead)) {
            throw new IndexOutOfBoundsException("no such bead");
        }
        // A look that no eye of the bead has now takes four free slices, so that only its own looks
        // are tried one by one.
        int least = canFillBead() ? EYES : NONE;
        for (int eye = 0; eye < EYES; eye++) {
            Slice kept = eyes[EYES * bead + eye];
            if (kept != null) {
                int others = EYES - eyesLike(bead, kept);
                boolean better = least == NONE || others < least;
                if (better && others <= freeSlicesOf(kept.kind)) {
                    least = others;
                }
            }
        }
        return least;
    }

    public double mean() {
        return caneCount == 0 ? 0.0 : (double) heatOfAll() / caneCount;
    }

    public long digest() {
        long sum = DIGEST_START;
        for (int what = 0; what < WHATS_OF_COUNT; what++) {
            sum = digestWith(sum, tally(what));
        }
        sum = digestWithCanes(sum);
        sum = digestWithSlices(sum);
        return digestWithEyes(sum);
    }

    // ---- what there is

    /** null if there is no such cane */
    private Cane caneAt(int number) {
        return number >= 0 && number < MOST_CANES ? canes[number] : null;
    }

    /** null if there is no such slice */
    private Slice sliceAt(int number) {
        return number >= 0 && number < MOST_SLICES ? slices[number] : null;
    }

    private boolean isBead(int number) {
        return number >= 0 && number < beadCount;
    }

    private static boolean isEye(int number) {
        return number >= 0 && number < EYES;
    }

    private static boolean isRing(int number) {
        return number >= 0 && number < RINGS;
    }

    private static boolean isSector(int number) {
        return number >= 0 && number < SECTORS;
    }

    private static boolean isTwist(int number) {
        return number >= -MOST_TWIST && number <= MOST_TWIST;
    }

    // ---- all canes

    private void passMinute() {
        for (int number = 0; number < MOST_CANES; number++) {
            Cane aged = canes[number];
            if (aged != null) {
                aged.passMinute(number == inFurnace);
            }
        }
        minute++;
    }

    private int heatOfAll() {
        int sum = 0;
        for (Cane each : canes) {
            if (each != null) {
                sum += each.heat;
            }
        }
        return sum;
    }

    private int lengthOfAll() {
        int sum = 0;
        for (Cane each : canes) {
            if (each != null) {
                sum += each.length;
            }
        }
        return sum;
    }

    private int wholeCanes() {
        int found = 0;
        for (Cane each : canes) {
            if (each != null && !each.cracked) {
                found++;
            }
        }
        return found;
    }

    // ---- all slices and eyes

    /** The first slice that the pattern can be turned to look like, or else the next number. */
    private int kindOf(Pattern pattern) {
        for (int number = 0; number < MOST_SLICES; number++) {
            Slice earlier = slices[number];
            if (earlier != null && pattern.leastTurnTo(earlier.pattern) != NONE) {
                return number;
            }
        }
        return sliceCount;
    }

    private int freeSlicesOf(int kind) {
        int found = 0;
        for (Slice each : slices) {
            if (each != null && each.isFree() && each.kind == kind) {
                found++;
            }
        }
        return found;
    }

    /** Whether the free slices are enough for a bead that keeps none of its own. */
    private boolean canFillBead() {
        for (int kind = 0; kind < sliceCount; kind++) {
            if (freeSlicesOf(kind) >= EYES) {
                return true;
            }
        }
        return false;
    }

    private int slicesInEyes() {
        int found = 0;
        for (Slice each : eyes) {
            if (each != null) {
                found++;
            }
        }
        return found;
    }

    private int filledEyes(int bead) {
        int found = 0;
        for (int eye = 0; eye < EYES; eye++) {
            if (eyes[EYES * bead + eye] != null) {
                found++;
            }
        }
        return found;
    }

    /** How many eyes of the bead look as this slice does in its eye. */
    private int eyesLike(int bead, Slice model) {
        int found = 0;
        for (int eye = 0; eye < EYES; eye++) {
            Slice each = eyes[EYES * bead + eye];
            if (each != null && each.pattern.looksLike(model.pattern, each.turn - model.turn)) {
                found++;
            }
        }
        return found;
    }

    private int beadsOfOneLook() {
        int found = 0;
        for (int bead = 0; bead < beadCount; bead++) {
            Slice model = eyes[EYES * bead];
            if (model != null && eyesLike(bead, model) == EYES) {
                found++;
            }
        }
        return found;
    }

    private int tally(int what) {
        switch (what) {
            case 0:
                return minute;
            case 1:
                return caneCount;
            case 2:
                return wholeCanes();
            case 3:
                return sliceCount;
            case 4:
                return slicesInEyes();
            case 5:
                return beadCount;
            case 6:
                return beadsOfOneLook();
            default:
                return lengthOfAll();
        }
    }

    // ---- the digest's parts

    private static long digestWith(long sum, int number) {
        return sum * DIGEST_FACTOR + number;
    }

    private long digestWithCanes(long start) {
        long sum = start;
        for (int number = 0; number < MOST_CANES; number++) {
            Cane each = canes[number];
            if (each != null) {
                for (int what = 0; what < WHATS_OF_CANE; what++) {
                    sum = digestWith(sum, each.tell(what, number == inFurnace));
                }
                sum = digestWithPattern(sum, each.pattern);
            }
        }
        return sum;
    }

    private long digestWithSlices(long start) {
        long sum = start;
        for (Slice each : slices) {
            if (each != null) {
                sum = digestWithPattern(sum, each.pattern);
                sum = digestWith(sum, each.eye);
            }
        }
        return sum;
    }

    private long digestWithEyes(long start) {
        long sum = start;
        for (int index = 0; index < EYES * beadCount; index++) {
            Slice each = eyes[index];
            sum = digestWith(sum, each == null ? NONE : each.number);
            sum = digestWith(sum, each == null ? 0 : each.turn);
        }
        return sum;
    }

    private static long digestWithPattern(long start, Pattern pattern) {
        long sum = start;
        for (int each : pattern.colours) {
            sum = digestWith(sum, each);
        }
        return sum;
    }

    /** The colours of a cane or a slice, by 8 * ring + sector. */
    private static final class Pattern {
        private final int[] colours;

        Pattern() {
            colours = new int[RINGS * SECTORS];
        }

        private static int indexOf(int ring, int sector) {
            return SECTORS * ring + Math.floorMod(sector, SECTORS);
        }

        /** The colour that this pattern has there when it is turned, also by less than 0. */
        int colourAt(int ring, int sector, int turn) {
            return colours[indexOf(ring, sector - turn)];
        }

        void paint(int ring, int first, int sectors, int colour) {
            for (int step = 0; step < sectors; step++) {
                colours[indexOf(ring, first + step)] = colour;
            }
        }

        Pattern turned(int turn) {
            Pattern copy = new Pattern();
            for (int ring = 0; ring < RINGS; ring++) {
                for (int sector = 0; sector < SECTORS; sector++) {
                    copy.colours[SECTORS * ring + sector] = colourAt(ring, sector, turn);
                }
            }
            return copy;
        }

        /** Whether this pattern, when it is turned, looks like the other one as it is. */
        boolean looksLike(Pattern other, int turn) {
            for (int ring = 0; ring < RINGS; ring++) {
                for (int sector = 0; sector < SECTORS; sector++) {
                    if (colourAt(ring, sector, turn) != other.colours[SECTORS * ring + sector]) {
                        return false;
                    }
                }
            }
            return true;
        }

        int leastTurnTo(Pattern other) {
            for (int turn = 0; turn < SECTORS; turn++) {
                if (looksLike(other, turn)) {
                    return turn;
                }
            }
            return NONE;
        }
    }

    private static final class Cane {
        private final Pattern pattern;
        private int length;
        private int twist;
        private int heat;
        private boolean cracked;

        Cane() {
            pattern = new Pattern();
            length = FIRST_LENGTH;
            heat = MOST_HEAT;
        }

        boolean hasPlace(int place) {
            return place >= 0 && place < length;
        }

        /** By how much a cut so many places on is turned. */
        int turnAt(int places) {
            return twist * places;
        }

        /** Cracks the cane and returns false where it is too cold; else takes the heat it costs. */
        boolean startWorking(int neededHeat) {
            if (heat < neededHeat) {
                cracked = true;
                return false;
            }
            heat--;
            return true;
        }

        void stretch() {
            length = Math.min(2 * length, MOST_LENGTH);
            twist = twist / 2;
        }

        void passMinute(boolean heated) {
            heat = heated ? Math.min(heat + FURNACE_HEAT, MOST_HEAT) : Math.max(heat - 1, 0);
        }

        int tell(int what, boolean heated) {
            switch (what) {
                case 0:
                    return length;
                case 1:
                    return twist;
                case 2:
                    return heat;
                case 3:
                    return cracked ? 0 : 1;
                default:
                    return heated ? 1 : 0;
            }
        }
    }

    private static final class Slice {
        private final int number;
        private final Pattern pattern;
        /** Alike for slices that can be turned to look alike, so that mends() need not turn them. */
        private final int kind;
        private int eye;
        private int turn;

        Slice(int number, Pattern pattern, int kind) {
            this.number = number;
            this.pattern = pattern;
            this.kind = kind;
            this.eye = NONE;
        }

        boolean isFree() {
            return eye == NONE;
        }

        void enter(int newEye, int newTurn) {
            eye = newEye;
            turn = newTurn;
        }

        void leave() {
            eye = NONE;
            turn = 0;
        }
    }
}
