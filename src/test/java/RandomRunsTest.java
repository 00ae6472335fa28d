import java.util.Random;

/** All promises: long runs of calls, with wild arguments among them, answered as PlainWorkshop does. */
public final class RandomRunsTest {
    private static final int RUNS = 1500;
    /** With a digest behind each step, within the 512 calls of an object. */
    private static final int STEPS = 255;
    private static final int KINDS = 23;
    private static final int MENDS = 20;

    private final CaneSlices x = new CaneSlices();
    private final PlainWorkshop plain = new PlainWorkshop();
    private final Random random;
    private final int colours;
    private final int wildness;
    private static final int[] mendsAnswered = new int[5];

    private RandomRunsTest(int seed) {
        random = new Random(seed);
        colours = 2 + seed % 3;
        wildness = seed % 5 == 0 ? 4 : 40;
    }

    public static void main(String[] args) {
        for (int seed = 0; seed < RUNS; seed++) {
            new RandomRunsTest(seed).run("run " + seed);
        }
        for (int answer = 0; answer < mendsAnswered.length; answer++) {
            if (mendsAnswered[answer] == 0) {
                Check.complain("no run had a bead with " + answer + " mends");
            }
        }
        Check.finish();
    }

    private void run(String label) {
        x.begin();
        plain.begin();
        x.bead();
        plain.bead();
        for (int step = 0; step < STEPS; step++) {
            step(label + ", step " + step);
        }
    }

    private void step(String label) {
        int kind = pickKind();
        int a = pick(kind == 0 ? 8 : caneOrSlice(kind));
        int b = pick(kind == 4 ? 61 : 8);
        int c = pick(kind == MENDS ? 8 : Math.max(1, plain.count(3)));
        int d = pick(8);
        int e = random.nextInt(3) == 0 ? pick(8) : random.nextInt(colours);
        int[] arguments = {a, b, c, d, e};
        String call = label + ", call " + kind + " of " + a + ", " + b + ", " + c + ", " + d + ", " + e;
        Object due = answer(true, kind, arguments);
        if (kind == MENDS && due instanceof Integer && (Integer) due >= 0) {
            mendsAnswered[(Integer) due]++;
        }
        Check.same(call, due, () -> answer(false, kind, arguments));
        Check.same(call + ", then digest", plain.digest(), x::digest);
    }

    /** The kinds that change something are picked more often, so that runs get somewhere. */
    private int pickKind() {
        int sort = random.nextInt(10);
        if (sort < 3) {
            return random.nextInt(7);
        }
        if (sort < 5) {
            return 6;
        }
        if (sort < 7) {
            return random.nextBoolean() ? 13 : MENDS;
        }
        return random.nextInt(KINDS);
    }

    private int caneOrSlice(int kind) {
        boolean slice = kind == 9 || kind == 10 || kind == 18;
        boolean bead = kind == 12 || kind == 13 || kind == 14 || kind == MENDS;
        return Math.max(1, slice ? plain.count(3) : bead ? plain.count(5) : plain.count(1));
    }

    private int pick(int bound) {
        if (random.nextInt(wildness) != 0) {
            return random.nextInt(bound);
        }
        int[] wild = {-1, bound, -5, 8, 60, Integer.MIN_VALUE, Integer.MAX_VALUE, random.nextInt()};
        return wild[random.nextInt(wild.length)];
    }

    private Object answer(boolean asPlain, int kind, int[] n) {
        try {
            return asPlain ? plainAnswer(kind, n) : classAnswer(kind, n);
        } catch (RuntimeException thrown) {
            if (!asPlain && !Check.isThrownByClass(thrown)) {
                return "thrown by the machine: " + thrown;
            }
            return "throws " + thrown.getClass().getName();
        }
    }

    private static int ringOf(int number) {
        return number >= 0 && number < 8 ? number % 3 : number;
    }

    private static int eyeOf(int number) {
        return number >= 0 && number < 8 ? number % 4 : number;
    }

    private static int byOf(int number) {
        return number >= 0 && number < 8 ? number - 4 : number;
    }

    private static int minutesOf(int number) {
        return number > 0 && number < 50 ? 1 + number % 9 : number;
    }

    /** Such turns as look alike come more often. */
    private static int turnOf(int number) {
        return number >= 4 && number < 8 ? 0 : number;
    }

    private static int furnaceOf(int cane, int other) {
        return other >= 0 && other < 4 ? -1 : cane;
    }

    private Object classAnswer(int kind, int[] n) {
        switch (kind) {
            case 0: return x.begin();
            case 1: return x.lay(n[0], ringOf(n[1]), n[3] == 3 ? n[2] : 0, n[3], n[4]);
            case 2: return x.twist(n[0], byOf(n[1]));
            case 3: return x.pull(n[0]);
            case 4: return x.rest(minutesOf(n[1]));
            case 5: return x.furnace(furnaceOf(n[0], n[1]));
            case 6: return x.cut(n[0]);
            case 7: return x.cane(n[0], n[1]);
            case 8: return x.shows(n[0], n[2], ringOf(n[1]), n[3]);
            case 9: return x.colour(n[0], ringOf(n[1]), n[3]);
            case 10: return x.where(n[0]);
            case 11: return x.bead();
            case 12: case 13: return x.set(n[0], eyeOf(n[1]), n[2], turnOf(n[3]));
            case 14: return x.drop(n[0], eyeOf(n[1]));
            case 15: return x.seen(n[0], eyeOf(n[1]), ringOf(n[4]), n[3]);
            case 16: return x.count(n[1]);
            case 17: return x.again(n[0], n[3]);
            case 18: return x.turn(n[0], n[2]);
            case 19: return x.cuts(n[0], n[2]);
            case MENDS: return x.mends(n[0]);
            case 21: return x.mean();
            default: return x.digest();
        }
    }

    private Object plainAnswer(int kind, int[] n) {
        switch (kind) {
            case 0: return plain.begin();
            case 1: return plain.lay(n[0], ringOf(n[1]), n[3] == 3 ? n[2] : 0, n[3], n[4]);
            case 2: return plain.twist(n[0], byOf(n[1]));
            case 3: return plain.pull(n[0]);
            case 4: return plain.rest(minutesOf(n[1]));
            case 5: return plain.furnace(furnaceOf(n[0], n[1]));
            case 6: return plain.cut(n[0]);
            case 7: return plain.cane(n[0], n[1]);
            case 8: return plain.shows(n[0], n[2], ringOf(n[1]), n[3]);
            case 9: return plain.colour(n[0], ringOf(n[1]), n[3]);
            case 10: return plain.where(n[0]);
            case 11: return plain.bead();
            case 12: case 13: return plain.set(n[0], eyeOf(n[1]), n[2], turnOf(n[3]));
            case 14: return plain.drop(n[0], eyeOf(n[1]));
            case 15: return plain.seen(n[0], eyeOf(n[1]), ringOf(n[4]), n[3]);
            case 16: return plain.count(n[1]);
            case 17: return plain.again(n[0], n[3]);
            case 18: return plain.turn(n[0], n[2]);
            case 19: return plain.cuts(n[0], n[2]);
            case MENDS: return plain.mends(n[0]);
            case 21: return plain.mean();
            default: return plain.digest();
        }
    }
}
