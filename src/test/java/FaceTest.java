import java.lang.reflect.Constructor;
import java.lang.reflect.Field;
import java.lang.reflect.Method;
import java.lang.reflect.Modifier;
import java.util.Set;
import java.util.TreeSet;

/** The public face: what the document lists, and nothing else that is not private. */
final class FaceTest {
    private static final Set<String> DUE = Set.of(
            "public PointColours()",
            "public boolean PointColours.begin(int,int)",
            "public boolean PointColours.join(int,int)",
            "public boolean PointColours.cost(int,int)",
            "public boolean PointColours.wish(int,int)",
            "public int PointColours.give()",
            "public int PointColours.colour(int)",
            "public int PointColours.taken(int)",
            "public boolean PointColours.joined(int,int)",
            "public int PointColours.degree(int)",
            "public int PointColours.strays()");

    public static void main(String[] args) {
        Set<String> found = new TreeSet<>();
        for (Constructor<?> made : PointColours.class.getDeclaredConstructors()) {
            addIfSeen(found, made.getModifiers(), made.toString());
        }
        for (Method method : PointColours.class.getDeclaredMethods()) {
            addIfSeen(found, method.getModifiers(), method.toString());
        }
        for (Field field : PointColours.class.getDeclaredFields()) {
            addIfSeen(found, field.getModifiers(), field.toString());
        }
        boolean right = found.equals(DUE) && Modifier.isPublic(PointColours.class.getModifiers())
                && Modifier.isFinal(PointColours.class.getModifiers());
        System.out.println(right ? "the face is as due" : "the face is " + found);
        if (!right) {
            System.exit(1);
        }
    }

    private static void addIfSeen(Set<String> found, int modifiers, String member) {
        if (!Modifier.isPrivate(modifiers)) {
            found.add(member);
        }
    }
}
