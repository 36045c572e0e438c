import java.lang.reflect.Constructor;
import java.lang.reflect.Field;
import java.lang.reflect.Method;
import java.lang.reflect.Modifier;
import java.util.Arrays;
import java.util.Set;
import java.util.TreeSet;

/** The public face: what the document lists, and nothing else that can be seen from outside. */
public final class FaceTest {
    private static final String[] FACE = {
        "public static final int NONE",
        "public MazeDesk(int,int,int)",
        "public boolean cut(int,boolean)",
        "public int make(int,int)",
        "public int top(int)",
        "public int popped(int)",
        "public int circles()",
        "public long trees()",
        "public int passage(int,int)",
        "public boolean open(int,int,boolean)",
        "public int braid(int)",
        "public int deadEnds()",
        "public boolean key(int,int)",
        "public boolean door(int,int,int)",
        "public boolean oneWay(int,int)",
        "public boolean start(int)",
        "public boolean exit(int)",
        "public int placeKeys(int)",
        "public int escape()",
        "public int step(int)",
        "public boolean walk(int)",
        "public boolean again()",
        "public int player(int)",
        "public int drawing(int)",
    };

    public static void main(String[] args) {
        Checks checks = new Checks();
        checks.due("the class is public and final", true,
                Modifier.isPublic(MazeDesk.class.getModifiers()) && Modifier.isFinal(MazeDesk.class.getModifiers()));
        checks.due("NONE", -1, MazeDesk.NONE);
        checks.due("the face", new TreeSet<>(Arrays.asList(FACE)).toString(), visibleMembers().toString());
        for (Class<?> inside : MazeDesk.class.getDeclaredClasses()) {
            checkInside(checks, inside);
        }
        checks.end();
    }

    private static Set<String> visibleMembers() {
        Set<String> seen = new TreeSet<>();
        for (Constructor<?> c : MazeDesk.class.getDeclaredConstructors()) {
            if (!Modifier.isPrivate(c.getModifiers()) && !c.isSynthetic()) {
                seen.add(c.toGenericString());
            }
        }
        for (Method m : MazeDesk.class.getDeclaredMethods()) {
            if (!Modifier.isPrivate(m.getModifiers()) && !m.isSynthetic()) {
                seen.add(m.toGenericString().replace("MazeDesk.", ""));
            }
        }
        for (Field f : MazeDesk.class.getDeclaredFields()) {
            if (!Modifier.isPrivate(f.getModifiers()) && !f.isSynthetic()) {
                seen.add(f.toGenericString().replace("MazeDesk.", ""));
            }
        }
        return seen;
    }

    private static void checkInside(Checks checks, Class<?> inside) {
        int modifiers = inside.getModifiers();
        checks.due(inside.getName() + " is static and not seen from outside", true,
                Modifier.isStatic(modifiers) && !Modifier.isPublic(modifiers) && !Modifier.isProtected(modifiers));
        Set<String> publicNames = new TreeSet<>();
        for (Method m : MazeDesk.class.getMethods()) {
            publicNames.add(m.getName());
        }
        for (Method m : inside.getDeclaredMethods()) {
            checks.due(inside.getName() + "." + m.getName() + " bears a public method's name", false,
                    publicNames.contains(m.getName()));
        }
        for (Field f : inside.getDeclaredFields()) {
            checks.due(inside.getName() + "." + f.getName() + " is final if it is static", true,
                    !Modifier.isStatic(f.getModifiers()) || Modifier.isFinal(f.getModifiers()));
        }
    }
}
