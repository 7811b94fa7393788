import java.lang.reflect.Constructor;
import java.lang.reflect.Field;
import java.lang.reflect.Method;
import java.lang.reflect.Modifier;
import java.util.ArrayList;
import java.util.List;
import java.util.TreeSet;

/** The class shows the document's public face and nothing else. */
public final class FaceTest {
    private static final String[] FACE = {
        "public static final int JointSolids.BRIDLE = 4",
        "public static final int JointSolids.FINGERS = 2",
        "public static final int JointSolids.HOUSING = 1",
        "public static final int JointSolids.LAP = 0",
        "public static final int JointSolids.NONE = -1",
        "public static final int JointSolids.TENON = 3",
        "public JointSolids()",
        "public int JointSolids.part(int,int,int,int,int,int) throws A,S",
        "public boolean JointSolids.cut(int,int,int,int,int,int,int) throws X,A,S",
        "public void JointSolids.clear(int) throws A",
        "public int JointSolids.joint(int,int,int,int,int) throws X,A,S",
        "public int JointSolids.pieces(int) throws X",
        "public int JointSolids.corner(int,int,int) throws X",
        "public long JointSolids.volume(int) throws X",
        "public long JointSolids.overlap(int,int) throws X,A",
        "public long JointSolids.touch(int,int) throws X,A",
        "public boolean JointSolids.has(int,int,int,int) throws X",
        "public void JointSolids.row(int,int) throws X,A",
        "public long JointSolids.strength(int) throws X",
        "public long JointSolids.about(int,int) throws X",
        "public int JointSolids.first()",
    };

    private FaceTest() {
    }

    private static String shorter(String text) {
        return text.replace("java.lang.IndexOutOfBoundsException", "X")
            .replace("java.lang.IllegalArgumentException", "A").replace("java.lang.IllegalStateException", "S");
    }

    private static TreeSet<String> shown() throws IllegalAccessException {
        TreeSet<String> all = new TreeSet<>();
        for (Field f : JointSolids.class.getDeclaredFields()) {
            if (!Modifier.isPrivate(f.getModifiers())) {
                all.add(f + " = " + f.get(null));
            }
        }
        for (Constructor<?> c : JointSolids.class.getDeclaredConstructors()) {
            if (!Modifier.isPrivate(c.getModifiers())) {
                all.add(c.toString());
            }
        }
        for (Method m : JointSolids.class.getDeclaredMethods()) {
            if (!Modifier.isPrivate(m.getModifiers())) {
                all.add(shorter(m.toString()));
            }
        }
        return all;
    }

    private static void privateNamesAreNotPublicOnes() {
        List<String> open = new ArrayList<>();
        for (Method m : JointSolids.class.getDeclaredMethods()) {
            if (Modifier.isPublic(m.getModifiers())) {
                open.add(m.getName());
            }
        }
        for (Method m : JointSolids.class.getDeclaredMethods()) {
            if (!Modifier.isPublic(m.getModifiers())) {
                Check.same("a private method " + m.getName() + " bears a public name", open.contains(m.getName()), false);
            }
        }
    }

    /** The classes inside are static and not open, as LANGUAGE.md asks, and no class or method is too large for it. */
    private static void classesInside() {
        List<Class<?>> all = new ArrayList<>(List.of(JointSolids.class.getDeclaredClasses()));
        for (Class<?> inside : all) {
            int how = inside.getModifiers();
            Check.same(inside + " is static", Modifier.isStatic(how), true);
            Check.same(inside + " is open", Modifier.isPublic(how) || Modifier.isProtected(how), false);
        }
        all.add(JointSolids.class);
        Check.same("at most 12 classes", all.size() <= 12, true);
        for (Class<?> each : all) {
            int fields = 0;
            for (Field f : each.getDeclaredFields()) {
                fields += Modifier.isStatic(f.getModifiers()) ? 0 : 1;
            }
            Check.same(each + " has at most 20 fields", fields <= 20, true);
            for (Method m : each.getDeclaredMethods()) {
                Check.same(m + " has at most seven parameters", m.getParameterCount() <= 7, true);
            }
        }
    }

    public static void main(String[] args) throws IllegalAccessException {
        Check.same("the face", String.join("\n", shown()), String.join("\n", new TreeSet<>(List.of(FACE))));
        Check.same("final", Modifier.isFinal(JointSolids.class.getModifiers()), true);
        Check.same("public", Modifier.isPublic(JointSolids.class.getModifiers()), true);
        for (Field f : JointSolids.class.getDeclaredFields()) {
            boolean shared = Modifier.isStatic(f.getModifiers()) && !Modifier.isFinal(f.getModifiers());
            Check.same("static state in " + f.getName(), shared, false);
        }
        privateNamesAreNotPublicOnes();
        classesInside();
        Check.end("FaceTest");
    }
}
