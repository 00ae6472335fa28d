import java.lang.reflect.InvocationTargetException;
import java.lang.reflect.Method;
import java.util.Arrays;
import java.util.Random;

/** All promises: long runs of calls, with wild arguments among them, answered as PlainWorkshop does. */
public final class RandomRunsTest {
    private static final int RUNS = 1500;
    /** With a digest behind each step and the two first calls, an object gets 512 calls. */
    private static final int STEPS = 254;
    private static final String[] WORKING = {"begin", "lay", "twist", "pull", "rest", "furnace", "cut"};
    private static final String[] ASKING = {
        "cane", "shows", "colour", "where", "bead", "drop", "seen", "count", "again", "turn", "cuts", "mean", "digest"
    };
    /** How often mends answered 0 to 4, and last, -1. */
    private static final int[] MENDS = new int[6];

    private final CaneSlices built = new CaneSlices();
    private final PlainWorkshop plain = new PlainWorkshop();
    private final Random random;
    private final int colours;
    private final int wildness;

    private RandomRunsTest(int seed) {
        random = new Random(seed);
        colours = 2 + seed % 3;
        wildness = seed % 5 == 0 ? 4 : 40;
    }

    public static void main(String[] args) {
        for (int seed = 0; seed < RUNS; seed++) {
            new RandomRunsTest(seed).run("run " + seed);
        }
        for (int times : MENDS) {
            Check.same("each answer of mends came up", true, () -> times > 0);
        }
        Check.finish();
    }

    private void run(String label) {
        compare(label, "begin");
        compare(label, "bead");
        for (int step = 0; step < STEPS; step++) {
            String name = pickName();
            compare(label + ", step " + step, name, argumentsOf(name));
        }
    }

    private void compare(String label, String name, int... arguments) {
        Object due = answer(plain, name, arguments);
        if (name.equals("mends") && due instanceof Integer) {
            MENDS[Math.floorMod((Integer) due, MENDS.length)]++;
        }
        Check.same(label + ", " + name + Arrays.toString(arguments), due, () -> answer(built, name, arguments));
        Check.same(label + ", then digest", plain.digest(), built::digest);
    }

    private static Object answer(Object workshop, String name, int[] arguments) {
        Class<?>[] types = new Class<?>[arguments.length];
        Arrays.fill(types, int.class);
        Object[] boxed = Arrays.stream(arguments).boxed().toArray();
        try {
            Method method = workshop.getClass().getDeclaredMethod(name, types);
            return method.invoke(workshop, boxed);
        } catch (InvocationTargetException wrapped) {
            return thrownAnswer(workshop, wrapped.getCause());
        } catch (ReflectiveOperationException missing) {
            throw new IllegalStateException(missing);
        }
    }

    private static String thrownAnswer(Object workshop, Throwable thrown) {
        boolean machine = workshop instanceof CaneSlices
                && !(thrown instanceof RuntimeException && Check.isThrownByClass((RuntimeException) thrown));
        return (machine ? "the machine throws " : "throws ") + thrown.getClass().getName();
    }

    /** Some calls are picked more often, so that runs get as far as full beads. */
    private String pickName() {
        int sort = random.nextInt(10);
        if (sort < 3) {
            return WORKING[random.nextInt(WORKING.length)];
        }
        if (sort < 5) {
            return "cut";
        }
        if (sort < 7) {
            return random.nextBoolean() ? "set" : "mends";
        }
        return ASKING[random.nextInt(ASKING.length)];
    }

    private int[] argumentsOf(String name) {
        switch (name) {
            case "lay":
                return new int[] {cane(), pick(0, 2), pick(0, 7), pick(1, 8), colour()};
            case "twist":
                return new int[] {cane(), pick(-4, 4)};
            case "pull": case "cut":
                return new int[] {cane()};
            case "furnace":
                return new int[] {random.nextBoolean() ? -1 : cane()};
            case "rest":
                return new int[] {random.nextInt(4) == 0 ? pick(1, 60) : pick(1, 8)};
            case "cane":
                return new int[] {cane(), pick(0, 4)};
            case "shows":
                return new int[] {cane(), place(), pick(0, 2), pick(0, 7)};
            case "colour":
                return new int[] {slice(), pick(0, 2), pick(0, 7)};
            case "where":
                return new int[] {slice()};
            case "set":
                return new int[] {bead(), pick(0, 3), slice(), random.nextBoolean() ? 0 : pick(0, 7)};
            case "drop":
                return new int[] {bead(), pick(0, 3)};
            case "seen":
                return new int[] {bead(), pick(0, 3), pick(0, 2), pick(0, 7)};
            case "count":
                return new int[] {pick(0, 7)};
            case "again":
                return new int[] {cane(), place()};
            case "turn":
                return new int[] {slice(), slice()};
            case "cuts":
                return new int[] {cane(), slice()};
            case "mends":
                return new int[] {bead()};
            default:
                return new int[0];
        }
    }

    private int cane() {
        return pick(0, plain.count(1) - 1);
    }

    private int slice() {
        return pick(0, Math.max(0, plain.count(3) - 1));
    }

    private int bead() {
        return pick(0, plain.count(5) - 1);
    }

    private int place() {
        return pick(0, random.nextInt(4) == 0 ? 60 : 7);
    }

    /** Few colours in most runs, so that patterns come again. */
    private int colour() {
        return random.nextInt(4) == 0 ? pick(0, 7) : random.nextInt(colours);
    }

    private int pick(int least, int most) {
        if (random.nextInt(wildness) != 0) {
            return least + random.nextInt(most - least + 1);
        }
        int[] wild = {least - 1, most + 1, -1, 0, 8, 60, Integer.MIN_VALUE, Integer.MAX_VALUE, random.nextInt()};
        return wild[random.nextInt(wild.length)];
    }
}
