import java.lang.reflect.Constructor;
import java.lang.reflect.Field;
import java.lang.reflect.Method;
import java.lang.reflect.Modifier;
import java.util.Set;
import java.util.TreeSet;

/** The class shows the document's face and nothing else, and no private method has a name of the face. */
public final class FaceTest {
    private static final Set<String> FACE = new TreeSet<>(Set.of(
            "public static final int OnlineHull.BAD",
            "public static final int OnlineHull.FULL",
            "public OnlineHull(int)",
            "public int OnlineHull.add(int,int)",
            "public int OnlineHull.size()",
            "public int OnlineHull.xOf(int)",
            "public int OnlineHull.yOf(int)",
            "public int OnlineHull.inside(int,int)",
            "public int OnlineHull.twiceArea()",
            "public int OnlineHull.farthest(int,int)",
            "public int OnlineHull.tangent(int,int,int)",
            "public int OnlineHull.diameter()",
            "public int OnlineHull.points()"));

    public static void main(String[] args) {
        Due due = new Due();
        due.part("the face");
        Set<String> shown = shown();
        for (String member : FACE) {
            due.holds("has " + member, shown.contains(member));
        }
        for (String member : shown) {
            due.holds("asks for " + member, FACE.contains(member));
        }
        int modifiers = OnlineHull.class.getModifiers();
        due.holds("public final", Modifier.isPublic(modifiers) && Modifier.isFinal(modifiers));
        for (Method m : OnlineHull.class.getDeclaredMethods()) {
            due.holds("a name of its own for " + m, !Modifier.isPrivate(m.getModifiers()) || !isPublicName(m.getName()));
        }
        due.is("BAD", OnlineHull.BAD, -1);
        due.is("FULL", OnlineHull.FULL, -2);
        due.end();
    }

    private static boolean isPublicName(String name) {
        return FACE.stream().anyMatch(member -> member.contains("." + name + "("));
    }

    private static Set<String> shown() {
        Set<String> shown = new TreeSet<>();
        for (Field f : OnlineHull.class.getDeclaredFields()) {
            if (!Modifier.isPrivate(f.getModifiers())) {
                shown.add(f.toString());
            }
        }
        for (Constructor<?> c : OnlineHull.class.getDeclaredConstructors()) {
            if (!Modifier.isPrivate(c.getModifiers())) {
                shown.add(c.toString());
            }
        }
        for (Method m : OnlineHull.class.getDeclaredMethods()) {
            if (!Modifier.isPrivate(m.getModifiers())) {
                shown.add(m.toString());
            }
        }
        return shown;
    }
}
