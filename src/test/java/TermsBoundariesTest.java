/**
 * 'What it is' and 'Terms': each sentence that names a boundary, quoted above its test. What throws
 * stands in RefusedCallsTest.
 */
public final class TermsBoundariesTest {
    private static final int LAY = 0;
    private static final int TWIST = 1;
    private static final int PULL = 2;
    private static final int[] HEAT_NEEDED = {2, 4, 6};

    public static void main(String[] args) {
        lastCall();
        firstMinute();
        ringsSectorsColours();
        turnedRound();
        mostCanes();
        newCaneAmongOldOnes();
        leastAndMostLength();
        leastAndMostTwist();
        leastAndMostHeat();
        placesRound();
        mostSlices();
        mostBeadsAndEyes();
        turnsOfAnEye();
        oneEyeAtMost();
        heatThatWorkingNeeds();
        crackedForGood();
        workingInTheFurnace();
        minuteBehindWorking();
        noMinuteOtherwise();
        heatByMinutes();
        roomForOne();
        Check.finish();
    }

    /** "An object is used for at most 512 calls after it has been made" */
    private static void lastCall() {
        CaneSlices x = new CaneSlices();
        for (int call = 0; call < 8; call++) {
            x.begin();
        }
        x.furnace(7);
        for (int call = 9; call < 511; call++) {
            x.rest(60);
        }
        Check.same("the 512th call", 502 * 60, () -> x.count(0));
    }

    /** "Time is told in minutes, from 0." */
    private static void firstMinute() {
        CaneSlices x = new CaneSlices();
        Check.same("the first minute", 0, () -> x.count(0));
        x.rest(1);
        Check.same("the next one", 1, () -> x.count(0));
    }

    /** "3 rings, 0 to 2, of 8 sectors each, 0 to 7 round; each sector has a colour, 0 to 7" */
    private static void ringsSectorsColours() {
        CaneSlices x = Workshops.withCanes(1);
        x.furnace(0);
        for (int spot = 0; spot < 24; spot++) {
            Check.same("lay " + spot, true, lay(x, spot));
        }
        for (int spot = 0; spot < 24; spot++) {
            Check.same("colour of " + spot, colourOf(spot), show(x, spot));
        }
    }

    private static int colourOf(int spot) {
        return (3 * (spot / 8) + spot + 5) % 8;
    }

    private static Check.Call lay(CaneSlices x, int spot) {
        return () -> x.lay(0, spot / 8, spot % 8, 1, colourOf(spot));
    }

    private static Check.Call show(CaneSlices x, int spot) {
        return () -> x.shows(0, 0, spot / 8, spot % 8);
    }

    /** "Turned by n sectors, the sector s has the colours that were at s - n (round)." */
    private static void turnedRound() {
        CaneSlices x = Workshops.numberedOfLength(1);
        x.cut(0);
        x.bead();
        for (int turn = 0; turn < 8; turn++) {
            x.set(0, 0, 59, turn);
            for (int sector = 0; sector < 8; sector++) {
                int s = sector;
                int due = sector >= turn ? sector - turn : sector - turn + 8;
                Check.same("turned by " + turn + ", " + s, due, () -> x.seen(0, 0, 0, s));
            }
            x.drop(0, 0);
        }
    }

    /** "Canes. There are at most 8, numbered from 0 in the order of their beginning" */
    private static void mostCanes() {
        CaneSlices x = new CaneSlices();
        for (int number = 0; number < 8; number++) {
            Check.same("begin", number, x::begin);
        }
        Check.refusedUnchanged("the ninth cane", x, IllegalStateException.class, x::begin);
        Check.same("the last one", 8, () -> x.cane(7, 0));
        Check.noPlace("none behind it", () -> x.cane(8, 0));
    }

    /** "a pattern (colours 0, at first), a length (8), a twist (0), heat (10), and is whole (at first)" */
    private static void newCaneAmongOldOnes() {
        CaneSlices x = Workshops.numbered();
        x.pull(0);
        x.twist(0, 4);
        x.furnace(-1);
        x.rest(9);
        x.lay(0, 0, 0, 1, 1);
        x.begin();
        int[] due = {8, 0, 10, 1, 0};
        for (int what = 0; what < 5; what++) {
            int w = what;
            Check.same("at first, " + what, due[what], () -> x.cane(1, w));
        }
        for (int spot = 0; spot < 24; spot++) {
            int s = spot;
            Check.same("colour at first", 0, () -> x.shows(1, 7, s / 8, s % 8));
        }
        Check.same("the old one stays cracked", 0, () -> x.cane(0, 3));
    }

    /** "a length, 0 to 60" */
    private static void leastAndMostLength() {
        CaneSlices x = Workshops.numberedOf60();
        Check.same("most", 60, () -> x.cane(0, 0));
        x.pull(0);
        Check.same("no more", 60, () -> x.cane(0, 0));
        Check.same("the last place", 7, () -> x.shows(0, 59, 0, 7));
        Check.noPlace("none behind it", () -> x.shows(0, 60, 0, 7));
        Workshops.cool(x);
        Workshops.cutOff(x, 0, 59);
        Check.same("its last cut", 59, () -> x.cut(0));
        Check.same("least", 0, () -> x.cane(0, 0));
        Check.refusedUnchanged("no less", x, IllegalStateException.class, () -> x.cut(0));
        Check.noPlace("no place", () -> x.shows(0, 0, 0, 0));
    }

    /** "a twist, -4 to 4" */
    private static void leastAndMostTwist() {
        for (int side = -1; side <= 1; side += 2) {
            CaneSlices x = Workshops.marked(1);
            int by = side;
            for (int twist = 1; twist <= 4; twist++) {
                Check.same("twist", true, () -> x.twist(0, by));
                Check.same("it is", by * twist, () -> x.cane(0, 1));
            }
            Check.refusedUnchanged("no further", x, IllegalStateException.class, () -> x.twist(0, by));
        }
    }

    /** "heat, 0 to 10", "1 less heat (at least 0)", "3 more (at most 10)" */
    private static void leastAndMostHeat() {
        CaneSlices x = Workshops.withCanes(1);
        int[] cooling = {9, 8, 7, 6, 5, 4, 3, 2, 1, 0, 0, 0};
        for (int due : cooling) {
            Check.same("cooling", due, () -> x.rest(1));
        }
        x.furnace(0);
        int[] heating = {3, 6, 9, 10, 10, 10};
        for (int due : heating) {
            Check.same("heating", due, () -> x.rest(1));
        }
        for (int heat = 0; heat <= 10; heat++) {
            CaneSlices out = Workshops.withHeat(heat);
            CaneSlices in = Workshops.withHeat(heat);
            in.furnace(0);
            Check.same("out of it, from " + heat, heat == 0 ? 0 : heat - 1, () -> out.rest(1));
            Check.same("in it, from " + heat, heat > 7 ? 10 : heat + 3, () -> in.rest(1));
        }
    }

    /** "At the place p, 0 to its length - 1, turned by twist * p (round, also for less than 0)" */
    private static void placesRound() {
        for (int twist = -4; twist <= 4; twist++) {
            CaneSlices x = Workshops.numberedOf60();
            if (twist != 0) {
                x.twist(0, twist);
            }
            for (int place = 0; place < 60; place++) {
                int p = place;
                int first = (8 * 60 - twist * place) % 8;
                String label = "twist " + twist + ", place " + place;
                Check.same(label + ", first", first, () -> x.shows(0, p, 0, 0));
                Check.same(label + ", last", (first + 7) % 8, () -> x.shows(0, p, 0, 7));
            }
            Check.noPlace("no place -1", () -> x.shows(0, -1, 0, 0));
            Check.noPlace("no place 60", () -> x.shows(0, 60, 0, 0));
        }
    }

    /** "Slices. There are at most 60, numbered likewise" */
    private static void mostSlices() {
        CaneSlices x = Workshops.withCanes(8);
        x.rest(10);
        for (int number = 0; number < 60; number++) {
            int n = number;
            Check.same("cut", number, () -> x.cut(7 - n / 8));
        }
        Check.refusedUnchanged("the 61st slice", x, IllegalStateException.class, () -> x.cut(0));
        Check.same("the last one", -1, () -> x.where(59));
        Check.noPlace("none behind it", () -> x.where(60));
    }

    /** "Beads. There are at most 6, numbered likewise; each has 4 eyes, 0 to 3, round" */
    private static void mostBeadsAndEyes() {
        CaneSlices x = Workshops.with60Slices();
        for (int number = 0; number < 6; number++) {
            Check.same("bead", number, x::bead);
        }
        Check.refusedUnchanged("the seventh bead", x, IllegalStateException.class, x::bead);
        for (int index = 0; index < 24; index++) {
            int i = index;
            Check.same("none at first", -1, () -> x.seen(i / 4, i % 4, 0, 0));
            Check.same("set", index % 4 + 1, () -> x.set(i / 4, i % 4, 59 - i, 0));
            Check.same("where", index, () -> x.where(59 - i));
        }
        Check.noPlace("no bead 6", () -> x.seen(6, 0, 0, 0));
        Check.noPlace("eye 4 is not eye 0", () -> x.seen(0, 4, 0, 0));
        Check.noPlace("eye -1 is not eye 3", () -> x.seen(1, -1, 0, 0));
    }

    /** "an eye has a slice, set with a turn of 0 to 7 sectors, or none" */
    private static void turnsOfAnEye() {
        CaneSlices x = Workshops.withSlices(1);
        x.bead();
        Check.same("none", -1, () -> x.seen(0, 0, 0, 7));
        Check.same("turn 0", 1, () -> x.set(0, 0, 0, 0));
        Check.same("not turned", 1, () -> x.seen(0, 0, 0, 7));
        x.drop(0, 0);
        Check.same("none again", -1, () -> x.seen(0, 0, 0, 7));
        Check.same("turn 7", 1, () -> x.set(0, 0, 0, 7));
        Check.same("turned by 7", 1, () -> x.seen(0, 0, 0, 6));
        x.drop(0, 0);
        refusedTurn(x, -1);
        refusedTurn(x, 8);
    }

    private static void refusedTurn(CaneSlices x, int turn) {
        Check.refusedUnchanged("turn " + turn, x, IllegalArgumentException.class, () -> x.set(0, 0, 0, turn));
    }

    /** "A slice is in one eye at most." */
    private static void oneEyeAtMost() {
        CaneSlices x = Workshops.withSlices(1);
        Workshops.beads(x, 2);
        x.set(0, 0, 0, 0);
        Check.refusedUnchanged("the same eye", x, IllegalStateException.class, () -> x.set(0, 0, 0, 0));
        Check.refusedUnchanged("the next eye", x, IllegalStateException.class, () -> x.set(0, 1, 0, 0));
        Check.refusedUnchanged("another bead", x, IllegalStateException.class, () -> x.set(1, 3, 0, 0));
        x.drop(0, 0);
        Check.same("then in another one", 1, () -> x.set(1, 3, 0, 0));
        Check.same("not in the first one", -1, () -> x.seen(0, 0, 0, 7));
    }

    private static boolean work(CaneSlices x, int sort) {
        switch (sort) {
            case LAY:
                return x.lay(0, 1, 6, 4, 7);
            case TWIST:
                return x.twist(0, -3);
            default:
                return x.pull(0);
        }
    }

    /** "heat of at least 2, 4, or 6. With less heat it cracks, and nothing else is done to it." */
    private static void heatThatWorkingNeeds() {
        for (int sort = LAY; sort <= PULL; sort++) {
            for (int heat = 0; heat <= 10; heat++) {
                workingWith(sort, heat);
            }
        }
    }

    private static void workingWith(int sort, int heat) {
        CaneSlices x = Workshops.withHeat(heat);
        boolean done = heat >= HEAT_NEEDED[sort];
        String label = "working " + sort + " with heat " + heat;
        Check.same(label, done, () -> work(x, sort));
        Check.same(label + ", length", done && sort == PULL ? 16 : 8, () -> x.cane(0, 0));
        Check.same(label + ", twist", done && sort == TWIST ? -3 : 0, () -> x.cane(0, 1));
        // "Otherwise its heat is 1 less for it", and 1 less for the minute.
        Check.same(label + ", heat", Math.max(0, done ? heat - 2 : heat - 1), () -> x.cane(0, 2));
        Check.same(label + ", whole", done ? 1 : 0, () -> x.cane(0, 3));
        int laid = done && sort == LAY ? 7 : 0;
        for (int sector = 0; sector < 8; sector++) {
            int s = sector;
            Check.same(label + ", colour", s < 2 || s > 5 ? laid : 0, () -> x.shows(0, 0, 1, s));
        }
        // "also one by which it cracks"
        Check.same(label + ", minute", 10 - heat + 1, () -> x.count(0));
    }

    /** "a cane has to be whole", whatever its heat, and none is made whole again */
    private static void crackedForGood() {
        for (int sort = LAY; sort <= PULL; sort++) {
            CaneSlices x = Workshops.withHeat(0);
            work(x, sort);
            Workshops.heat(x, 0);
            Check.same("hot", 10, () -> x.cane(0, 2));
            Check.same("but cracked", 0, () -> x.cane(0, 3));
            for (int next = LAY; next <= PULL; next++) {
                int n = next;
                Check.refusedUnchanged("working " + n, x, IllegalStateException.class, () -> work(x, n));
            }
        }
    }

    /** "but the one in the furnace 3 more (at most 10)", behind its working too */
    private static void workingInTheFurnace() {
        for (int heat = 0; heat <= 10; heat++) {
            CaneSlices x = Workshops.withHeat(heat);
            x.furnace(0);
            boolean done = heat >= 2;
            int due = Math.min(10, (done ? heat - 1 : heat) + 3);
            Check.same("lay in the furnace", done, () -> work(x, LAY));
            Check.same("heat from " + heat, due, () -> x.cane(0, 2));
        }
    }

    /** "One goes by behind each working", for each cane; "The minute is 1 greater." */
    private static void minuteBehindWorking() {
        for (int sort = LAY; sort <= PULL; sort++) {
            CaneSlices x = Workshops.withCanes(3);
            x.rest(5);
            x.furnace(2);
            work(x, sort);
            Check.same("the minute, " + sort, 6, () -> x.count(0));
            Check.same("the worked one", sort == PULL ? 4 : 3, () -> x.cane(0, 2));
            Check.same("another one", 4, () -> x.cane(1, 2));
            Check.same("the one in the furnace", 8, () -> x.cane(2, 2));
        }
    }

    /** "One goes by behind each working, and by waiting": by nothing else */
    private static void noMinuteOtherwise() {
        CaneSlices x = Workshops.withSlices(2);
        x.begin();
        int minute = x.count(0);
        x.furnace(1);
        x.cut(0);
        Workshops.beads(x, 1);
        x.set(0, 0, 0, 0);
        x.set(0, 1, 1, 1);
        x.drop(0, 1);
        Check.same("no minute", minute, () -> x.count(0));
        Check.same("no heat", 10, () -> x.cane(1, 2));
        long before = x.digest();
        x.cane(0, 2);
        x.shows(0, 0, 0, 0);
        x.colour(0, 0, 0);
        x.where(0);
        x.seen(0, 0, 0, 0);
        x.count(6);
        x.again(0, 0);
        x.turn(0, 1);
        x.cuts(0, 0);
        x.mends(0);
        x.mean();
        Check.same("asking changes nothing", before, x::digest);
    }

    /** "each cane has 1 less heat, but the one in the furnace 3 more", cracked ones too */
    private static void heatByMinutes() {
        CaneSlices x = Workshops.withHeat(5);
        x.pull(0);
        x.begin();
        x.furnace(1);
        x.rest(1);
        Check.same("a cracked one cools", 3, () -> x.cane(0, 2));
        x.furnace(0);
        x.rest(1);
        Check.same("a cracked one is heated", 6, () -> x.cane(0, 2));
        Check.same("the other one cools", 9, () -> x.cane(1, 2));
    }

    /** "The furnace has room for one (none, at first)." */
    private static void roomForOne() {
        CaneSlices x = Workshops.withCanes(3);
        Check.same("at first none is heated", 27, () -> x.rest(1));
        Check.same("none, at first", -1, () -> x.furnace(0));
        Check.same("then one", 0, () -> x.furnace(2));
        for (int cane = 0; cane < 3; cane++) {
            int c = cane;
            Check.same("only the last is in it", cane == 2 ? 1 : 0, () -> x.cane(c, 4));
        }
        x.rest(3);
        Check.same("the first one is out", 6, () -> x.cane(0, 2));
        Check.same("the last one is in", 10, () -> x.cane(2, 2));
    }
}
