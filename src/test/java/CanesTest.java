/** Promises 1 to 10: a new object, and the canes. */
public final class CanesTest {
    private static final int[] NO_CANE = {-1, 1, 8, Integer.MIN_VALUE, Integer.MAX_VALUE};

    public static void main(String[] args) {
        promise1NewObject();
        promise2Begin();
        promise3Lay();
        promise3LayRefuses();
        promise3LayCracks();
        promise4Twist();
        promise4TwistRefuses();
        promise4TwistCracks();
        promise5Pull();
        promise5PullCracks();
        promise6Furnace();
        promise7Rest();
        promise8Cut();
        promise8CutRefuses();
        promise9Cane();
        promise10Shows();
        Check.finish();
    }

    private static void promise1NewObject() {
        for (int what = 0; what < 8; what++) {
            int asked = what;
            Check.same("new count " + what, 0, () -> new CaneSlices().count(asked));
        }
        Check.same("new mean", 0.0, () -> new CaneSlices().mean());
        Check.same("new furnace", -1, () -> new CaneSlices().furnace(-1));
        long sum = 991;
        for (int what = 0; what < 8; what++) {
            sum *= 31;
        }
        long due = sum;
        Check.same("new digest", due, () -> new CaneSlices().digest());
        CaneSlices one = Workshops.withCanes(1);
        Check.same("objects share nothing", 0, () -> new CaneSlices().count(1));
        Check.same("its own cane", 1, () -> one.count(1));
    }

    private static void promise2Begin() {
        CaneSlices x = new CaneSlices();
        for (int number = 0; number < 8; number++) {
            int due = number;
            Check.same("begin", due, x::begin);
            Check.same("length", 8, () -> x.cane(due, 0));
            Check.same("twist", 0, () -> x.cane(due, 1));
            Check.same("heat", 10, () -> x.cane(due, 2));
            Check.same("whole", 1, () -> x.cane(due, 3));
            Check.same("in furnace", 0, () -> x.cane(due, 4));
            for (int ring = 0; ring < 3; ring++) {
                for (int sector = 0; sector < 8; sector++) {
                    int r = ring;
                    int s = sector;
                    Check.same("colour at first", 0, () -> x.shows(due, 7, r, s));
                }
            }
        }
        long before = x.digest();
        Check.badState("ninth begin", x::begin);
        Check.badState("tenth begin", x::begin);
        Check.same("eight canes", 8, () -> x.count(1));
        Check.same("nothing changed", before, x::digest);
        Check.same("no minute goes by", 0, () -> x.count(0));
    }

    private static void promise3Lay() {
        CaneSlices x = Workshops.withCanes(2);
        Check.same("lay round", true, () -> x.lay(0, 2, 6, 4, 5));
        int[] rim = {5, 5, 0, 0, 0, 0, 5, 5};
        for (int sector = 0; sector < 8; sector++) {
            int s = sector;
            Check.same("rim " + s, rim[s], () -> x.shows(0, 0, 2, s));
            Check.same("core " + s, 0, () -> x.shows(0, 0, 0, s));
            Check.same("middle " + s, 0, () -> x.shows(0, 0, 1, s));
            Check.same("other cane " + s, 0, () -> x.shows(1, 0, 2, s));
        }
        Check.same("the laid one is 2 colder", 8, () -> x.cane(0, 2));
        Check.same("the other one is 1 colder", 9, () -> x.cane(1, 2));
        Check.same("a minute", 1, () -> x.count(0));
        Check.same("lay all", true, () -> x.lay(1, 0, 3, 8, 7));
        Check.same("lay one over it", true, () -> x.lay(1, 0, 7, 1, 0));
        for (int sector = 0; sector < 8; sector++) {
            int s = sector;
            Check.same("core of 1, " + s, s == 7 ? 0 : 7, () -> x.shows(1, 0, 0, s));
        }
    }

    private static void promise3LayRefuses() {
        CaneSlices x = Workshops.withCanes(1);
        for (int cane : NO_CANE) {
            Check.noPlace("lay cane " + cane, () -> x.lay(cane, 0, 0, 1, 0));
            Check.noPlace("cane before arguments", () -> x.lay(cane, 9, 9, 9, 9));
        }
        int[] wild = {-1, 8, Integer.MIN_VALUE, Integer.MAX_VALUE};
        for (int bad : wild) {
            Check.badArgument("ring " + bad, () -> x.lay(0, bad, 0, 1, 0));
            Check.badArgument("first " + bad, () -> x.lay(0, 0, bad, 1, 0));
            Check.badArgument("colour " + bad, () -> x.lay(0, 0, 0, 1, bad));
        }
        Check.badArgument("ring 3", () -> x.lay(0, 3, 0, 1, 0));
        for (int bad : new int[] {0, 9, -1, Integer.MIN_VALUE, Integer.MAX_VALUE}) {
            Check.badArgument("sectors " + bad, () -> x.lay(0, 0, 0, bad, 0));
        }
        Check.same("refused calls take no minute", 0, () -> x.count(0));
        Check.same("refused calls take no heat", 10, () -> x.cane(0, 2));
        CaneSlices cracked = Workshops.withHeat(0);
        Check.same("cracks", false, () -> cracked.lay(0, 0, 0, 1, 0));
        long before = cracked.digest();
        Check.badState("lay on cracked", () -> cracked.lay(0, 0, 0, 1, 0));
        Check.badArgument("arguments before cracked", () -> cracked.lay(0, 3, 0, 1, 0));
        Check.badArgument("colour before cracked", () -> cracked.lay(0, 0, 0, 1, 8));
        Check.noPlace("cane before cracked", () -> cracked.lay(1, 3, 0, 1, 0));
        Check.same("cracked unchanged", before, cracked::digest);
    }

    private static void promise3LayCracks() {
        CaneSlices warm = Workshops.withHeat(2);
        Check.same("lay with heat 2", true, () -> warm.lay(0, 1, 0, 1, 3));
        Check.same("laid", 3, () -> warm.shows(0, 0, 1, 0));
        Check.same("heat 0", 0, () -> warm.cane(0, 2));
        CaneSlices cold = Workshops.withHeat(1);
        Check.same("lay with heat 1", false, () -> cold.lay(0, 1, 0, 1, 3));
        Check.same("not laid", 0, () -> cold.shows(0, 0, 1, 0));
        Check.same("cracked", 0, () -> cold.cane(0, 3));
        Check.same("a minute by which it cracks", 10, () -> cold.count(0));
        Check.same("heat stays at least 0", 0, () -> cold.cane(0, 2));
        CaneSlices relit = Workshops.withHeat(1);
        relit.lay(0, 1, 0, 1, 3);
        relit.furnace(0);
        relit.rest(5);
        Check.badState("cracked stays cracked", () -> relit.lay(0, 1, 0, 1, 3));
    }

    private static void promise4Twist() {
        CaneSlices x = Workshops.withCanes(1);
        x.furnace(0);
        Check.same("twist 4", true, () -> x.twist(0, 4));
        Check.same("it is 4", 4, () -> x.cane(0, 1));
        Check.same("twist -4", true, () -> x.twist(0, -4));
        Check.same("it is 0", 0, () -> x.cane(0, 1));
        Check.same("twist -3", true, () -> x.twist(0, -3));
        Check.same("twist -1", true, () -> x.twist(0, -1));
        Check.same("it is -4", -4, () -> x.cane(0, 1));
        Check.same("four minutes", 4, () -> x.count(0));
        Check.same("heat in the furnace", 10, () -> x.cane(0, 2));
        CaneSlices out = Workshops.withCanes(1);
        out.twist(0, 1);
        Check.same("heat out of the furnace", 8, () -> out.cane(0, 2));
    }

    private static void promise4TwistRefuses() {
        CaneSlices x = Workshops.withCanes(1);
        for (int cane : NO_CANE) {
            Check.noPlace("twist cane " + cane, () -> x.twist(cane, 1));
            Check.noPlace("cane before by", () -> x.twist(cane, 0));
        }
        for (int bad : new int[] {0, 5, -5, Integer.MIN_VALUE, Integer.MAX_VALUE}) {
            Check.badArgument("by " + bad, () -> x.twist(0, bad));
        }
        Check.same("no minute", 0, () -> x.count(0));
        x.twist(0, 2);
        long before = x.digest();
        Check.badState("2 + 3", () -> x.twist(0, 3));
        Check.badArgument("by before the twist", () -> x.twist(0, 5));
        Check.same("unchanged", before, x::digest);
        Check.same("2 + 2", true, () -> x.twist(0, 2));
        CaneSlices left = Workshops.withCanes(1);
        left.twist(0, -2);
        Check.badState("-2 - 3", () -> left.twist(0, -3));
    }

    private static void promise4TwistCracks() {
        CaneSlices warm = Workshops.withHeat(4);
        Check.same("twist with heat 4", true, () -> warm.twist(0, 1));
        Check.same("heat 2", 2, () -> warm.cane(0, 2));
        CaneSlices cold = Workshops.withHeat(3);
        Check.same("twist with heat 3", false, () -> cold.twist(0, 1));
        Check.same("not twisted", 0, () -> cold.cane(0, 1));
        Check.same("cracked", 0, () -> cold.cane(0, 3));
        Check.same("heat only of the minute", 2, () -> cold.cane(0, 2));
        Check.same("a minute", 8, () -> cold.count(0));
        long before = cold.digest();
        Check.badState("twist a cracked one", () -> cold.twist(0, 1));
        Check.badArgument("by before cracked", () -> cold.twist(0, 0));
        Check.noPlace("cane before cracked", () -> cold.twist(1, 0));
        Check.same("unchanged", before, cold::digest);
        CaneSlices full = Workshops.withCanes(1);
        full.twist(0, 4);
        full.rest(8);
        Check.badState("too far comes before too cold", () -> full.twist(0, 1));
        Check.same("and it stays whole", 1, () -> full.cane(0, 3));
        Check.same("too cold the other way", false, () -> full.twist(0, -1));
    }

    private static void promise5Pull() {
        CaneSlices x = Workshops.withCanes(1);
        x.furnace(0);
        x.twist(0, 3);
        int[] lengths = {16, 32, 60, 60};
        int[] twists = {1, 0, 0, 0};
        for (int pulls = 0; pulls < 4; pulls++) {
            int n = pulls;
            Check.same("pull", true, () -> x.pull(0));
            Check.same("length after pull " + n, lengths[n], () -> x.cane(0, 0));
            Check.same("twist after pull " + n, twists[n], () -> x.cane(0, 1));
        }
        x.twist(0, -3);
        x.pull(0);
        Check.same("half of -3", -1, () -> x.cane(0, 1));
        x.pull(0);
        Check.same("half of -1", 0, () -> x.cane(0, 1));
        Check.same("minutes", 8, () -> x.count(0));
        for (int cane : NO_CANE) {
            Check.noPlace("pull cane " + cane, () -> x.pull(cane));
        }
        Check.same("no minute more", 8, () -> x.count(0));
    }

    private static void promise5PullCracks() {
        CaneSlices warm = Workshops.withHeat(6);
        Check.same("pull with heat 6", true, () -> warm.pull(0));
        Check.same("heat 4", 4, () -> warm.cane(0, 2));
        CaneSlices cold = Workshops.withHeat(5);
        Check.same("pull with heat 5", false, () -> cold.pull(0));
        Check.same("not pulled", 8, () -> cold.cane(0, 0));
        Check.same("cracked", 0, () -> cold.cane(0, 3));
        Check.same("a minute", 6, () -> cold.count(0));
        long before = cold.digest();
        Check.badState("pull a cracked one", () -> cold.pull(0));
        Check.noPlace("cane before cracked", () -> cold.pull(1));
        Check.same("unchanged", before, cold::digest);
        CaneSlices spent = Workshops.withHeat(0);
        for (int cuts = 0; cuts < 8; cuts++) {
            spent.cut(0);
        }
        spent.furnace(0);
        spent.rest(3);
        Check.same("pull one of length 0", true, () -> spent.pull(0));
        Check.same("twice 0", 0, () -> spent.cane(0, 0));
    }

    private static void promise6Furnace() {
        CaneSlices x = Workshops.withCanes(3);
        Check.same("none before", -1, () -> x.furnace(2));
        Check.same("2 is in it", 1, () -> x.cane(2, 4));
        Check.same("2 before", 2, () -> x.furnace(0));
        Check.same("2 is out", 0, () -> x.cane(2, 4));
        Check.same("0 before", 0, () -> x.furnace(0));
        for (int bad : new int[] {-2, 3, 8, Integer.MIN_VALUE, Integer.MAX_VALUE}) {
            Check.noPlace("furnace " + bad, () -> x.furnace(bad));
        }
        Check.same("0 is still in it", 0, () -> x.furnace(-1));
        Check.same("none again", -1, () -> x.furnace(-1));
        Check.same("no minute", 0, () -> x.count(0));
        Check.same("heat unchanged", 10, () -> x.cane(0, 2));
        CaneSlices cracked = Workshops.withHeat(1);
        cracked.lay(0, 0, 0, 1, 1);
        Check.same("a cracked one too", -1, () -> cracked.furnace(0));
        Check.same("gets hot", 3, () -> cracked.rest(1));
    }

    private static void promise7Rest() {
        CaneSlices x = Workshops.withCanes(3);
        Check.same("rest 1", 27, () -> x.rest(1));
        x.furnace(1);
        Check.same("furnace at most 10", 26, () -> x.rest(1));
        Check.same("minutes", 2, () -> x.count(0));
        Check.same("all cold but one", 10, () -> x.rest(60));
        x.furnace(-1);
        Check.same("9", 9, () -> x.rest(1));
        x.furnace(0);
        Check.same("3 in the furnace", 8 + 3, () -> x.rest(1));
        Check.same("6 in the furnace", 7 + 6, () -> x.rest(1));
        Check.same("minutes then", 65, () -> x.count(0));
        for (int bad : new int[] {0, -1, 61, Integer.MIN_VALUE, Integer.MAX_VALUE}) {
            Check.badArgument("rest " + bad, () -> x.rest(bad));
        }
        Check.same("minutes still", 65, () -> x.count(0));
        Check.same("no canes", 0, () -> new CaneSlices().rest(5));
        Check.same("exactly 60", 0, () -> Workshops.withCanes(8).rest(60));
    }

    private static void promise8Cut() {
        CaneSlices x = Workshops.withCanes(2);
        x.lay(0, 1, 0, 1, 6);
        x.twist(0, -1);
        x.rest(3);
        Check.same("heat 3", 3, () -> x.cane(0, 2));
        for (int cuts = 0; cuts < 8; cuts++) {
            int n = cuts;
            Check.same("cut", n, () -> x.cut(0));
            Check.same("shorter", 7 - n, () -> x.cane(0, 0));
            // At the place 7 - n it is turned by n - 7, which is n + 1 round.
            Check.same("its colour", 6, () -> x.colour(n, 1, (n + 1) % 8));
            Check.same("beside it", 0, () -> x.colour(n, 1, (n + 2) % 8));
        }
        Check.same("no minute goes by", 5, () -> x.count(0));
        Check.same("heat unchanged", 3, () -> x.cane(0, 2));
        Check.badState("length 0", () -> x.cut(0));
        x.furnace(0);
        x.rest(2);
        x.lay(0, 1, 0, 8, 2);
        Check.same("slices keep their pattern", 6, () -> x.colour(0, 1, 1));
        CaneSlices cracked = Workshops.withHeat(1);
        cracked.lay(0, 0, 0, 1, 1);
        Check.same("a cracked one is cut too", 0, () -> cracked.cut(0));
    }

    private static void promise8CutRefuses() {
        CaneSlices hot = Workshops.withHeat(4);
        for (int cane : NO_CANE) {
            Check.noPlace("cut cane " + cane, () -> hot.cut(cane));
        }
        Check.badState("heat 4", () -> hot.cut(0));
        Check.same("no slice", 0, () -> hot.count(3));
        Check.same("not shorter", 8, () -> hot.cane(0, 0));
        hot.rest(1);
        Check.same("heat 3", 0, () -> hot.cut(0));
        CaneSlices x = Workshops.withCanes(8);
        x.rest(10);
        for (int cuts = 0; cuts < 60; cuts++) {
            int n = cuts;
            Check.same("cut", n, () -> x.cut(n / 8));
        }
        long before = x.digest();
        Check.badState("61st slice", () -> x.cut(7));
        Check.noPlace("cane before slices", () -> x.cut(8));
        Check.same("unchanged", before, x::digest);
        Check.same("four left", 4, () -> x.cane(7, 0));
    }

    private static void promise9Cane() {
        CaneSlices x = Workshops.withCanes(2);
        x.twist(0, 3);
        x.furnace(0);
        x.pull(0);
        int[] due = {16, 1, 10, 1, 1};
        int[] other = {8, 0, 8, 1, 0};
        for (int what = 0; what < 5; what++) {
            int n = what;
            Check.same("cane 0, " + n, due[n], () -> x.cane(0, n));
            Check.same("cane 1, " + n, other[n], () -> x.cane(1, n));
        }
        x.furnace(-1);
        Check.same("out of the furnace", 0, () -> x.cane(0, 4));
        x.rest(20);
        x.lay(0, 0, 0, 1, 1);
        Check.same("cracked", 0, () -> x.cane(0, 3));
        for (int bad : new int[] {-1, 5, Integer.MIN_VALUE, Integer.MAX_VALUE}) {
            Check.noPlace("what " + bad, () -> x.cane(0, bad));
        }
        for (int bad : new int[] {-1, 2, 8, Integer.MIN_VALUE, Integer.MAX_VALUE}) {
            Check.noPlace("cane " + bad, () -> x.cane(bad, 0));
        }
    }

    private static void promise10Shows() {
        CaneSlices x = Workshops.withCanes(2);
        x.furnace(0);
        x.lay(0, 0, 0, 1, 1);
        x.lay(0, 1, 3, 2, 2);
        x.lay(0, 2, 7, 1, 3);
        x.twist(0, 3);
        for (int place = 0; place < 8; place++) {
            int p = place;
            Check.same("core", 1, () -> x.shows(0, p, 0, 3 * p % 8));
            Check.same("beside the core's", 0, () -> x.shows(0, p, 0, (3 * p + 1) % 8));
            Check.same("middle", 2, () -> x.shows(0, p, 1, (3 * p + 4) % 8));
            Check.same("rim", 3, () -> x.shows(0, p, 2, (3 * p + 7) % 8));
        }
        x.twist(0, -4);
        Check.same("turned by -1", 1, () -> x.shows(0, 1, 0, 7));
        Check.same("turned by -7", 1, () -> x.shows(0, 7, 0, 1));
        for (int bad : new int[] {-1, 8, 60, Integer.MIN_VALUE, Integer.MAX_VALUE}) {
            Check.noPlace("place " + bad, () -> x.shows(0, bad, 0, 0));
            Check.noPlace("ring " + bad, () -> x.shows(0, 0, bad, 0));
            Check.noPlace("sector " + bad, () -> x.shows(0, 0, 0, bad));
            Check.noPlace("cane " + bad, () -> x.shows(bad, 0, 0, 0));
        }
        Check.noPlace("ring 3", () -> x.shows(0, 0, 3, 0));
        Check.noPlace("cane 2", () -> x.shows(2, 0, 0, 0));
        x.furnace(-1);
        x.rest(7);
        x.cut(0);
        Check.noPlace("the place that was cut off", () -> x.shows(0, 7, 0, 0));
        Check.same("the one before it", 1, () -> x.shows(0, 6, 0, 2));
    }
}
