import java.io.IOException;
import java.lang.reflect.Constructor;
import java.lang.reflect.Field;
import java.lang.reflect.Method;
import java.lang.reflect.Modifier;
import java.nio.file.Files;
import java.nio.file.Path;
import java.util.ArrayList;
import java.util.Arrays;
import java.util.Collections;
import java.util.List;

/** 'The public face': the class has it to the letter, in its order, and shows nothing else. */
public final class FaceTest {
    private static final Path SOURCE = Path.of("src/main/java/CaneSlices.java");

    private static final String[] FACE = {
        "public final class CaneSlices",
        "public CaneSlices()",
        "// ---- canes",
        "public int begin() throws IllegalStateException",
        "public boolean lay(int cane, int ring, int first, int sectors, int colour)"
                + " throws IndexOutOfBoundsException, IllegalArgumentException, IllegalStateException",
        "public boolean twist(int cane, int by)"
                + " throws IndexOutOfBoundsException, IllegalArgumentException, IllegalStateException",
        "public boolean pull(int cane) throws IndexOutOfBoundsException, IllegalStateException",
        "public int furnace(int cane) throws IndexOutOfBoundsException",
        "public int rest(int minutes) throws IllegalArgumentException",
        "public int cut(int cane) throws IndexOutOfBoundsException, IllegalStateException",
        "public int cane(int cane, int what) throws IndexOutOfBoundsException",
        "public int shows(int cane, int place, int ring, int sector) throws IndexOutOfBoundsException",
        "// ---- slices and beads",
        "public int colour(int slice, int ring, int sector) throws IndexOutOfBoundsException",
        "public int where(int slice) throws IndexOutOfBoundsException",
        "public int bead() throws IllegalStateException",
        "public int set(int bead, int eye, int slice, int turn)"
                + " throws IndexOutOfBoundsException, IllegalArgumentException, IllegalStateException",
        "public int drop(int bead, int eye) throws IndexOutOfBoundsException, IllegalStateException",
        "public int seen(int bead, int eye, int ring, int sector) throws IndexOutOfBoundsException",
        "public int count(int what) throws IndexOutOfBoundsException",
        "// ---- what would be",
        "public int again(int cane, int place) throws IndexOutOfBoundsException",
        "public int turn(int slice, int other) throws IndexOutOfBoundsException",
        "public int cuts(int cane, int slice) throws IndexOutOfBoundsException",
        "public int mends(int bead) throws IndexOutOfBoundsException",
        "public double mean()",
        "public long digest()",
    };
    private static final int METHODS = 22;

    public static void main(String[] args) throws IOException {
        inOrder();
        nothingElse();
        ownNames();
        Check.finish();
    }

    /** Each line of the face stands behind the one before it, as a whole. */
    private static void inOrder() throws IOException {
        String source = Files.readString(SOURCE).replaceAll("\\s+", " ");
        int from = 0;
        for (String line : FACE) {
            String whole = line.startsWith("//") ? line + " " : line + " {";
            int found = source.indexOf(whole, from);
            Check.same(line, true, () -> found >= 0);
            from = Math.max(from, found + 1);
        }
    }

    /** The constructor and the methods of the face are all that is not private. */
    private static void nothingElse() {
        List<String> open = new ArrayList<>();
        for (Method each : CaneSlices.class.getDeclaredMethods()) {
            note(open, each.getModifiers(), each.getName());
        }
        Check.same("methods", METHODS, open::size);
        open.clear();
        for (Field each : CaneSlices.class.getDeclaredFields()) {
            note(open, each.getModifiers(), each.getName());
        }
        Check.same("fields", List.of(), () -> List.copyOf(open));
        open.clear();
        for (Constructor<?> each : CaneSlices.class.getDeclaredConstructors()) {
            note(open, each.getModifiers(), Arrays.toString(each.getParameterTypes()));
        }
        Check.same("constructors", List.of("[]"), () -> open);
        Check.same("above it", Object.class, CaneSlices.class::getSuperclass);
        Check.same("kinds", 0, () -> CaneSlices.class.getInterfaces().length);
        Check.same("a package", "", CaneSlices.class::getPackageName);
        for (Class<?> each : CaneSlices.class.getDeclaredClasses()) {
            int modifiers = each.getModifiers();
            Check.same(each.getName(), true, () -> Modifier.isPrivate(modifiers) && Modifier.isStatic(modifiers));
        }
    }

    private static void note(List<String> open, int modifiers, String name) {
        if (!Modifier.isPrivate(modifiers)) {
            open.add(name);
        }
    }

    /** No method, private ones among them, bears the name of a public one. */
    private static void ownNames() {
        List<String> names = new ArrayList<>();
        for (Method each : CaneSlices.class.getDeclaredMethods()) {
            names.add(each.getName());
        }
        for (Method each : CaneSlices.class.getDeclaredMethods()) {
            if (Modifier.isPublic(each.getModifiers())) {
                Check.same(each.getName(), 1, () -> Collections.frequency(names, each.getName()));
            }
        }
    }
}
