import java.lang.reflect.Constructor;
import java.lang.reflect.Field;
import java.lang.reflect.Method;
import java.lang.reflect.Modifier;
import java.util.Set;
import java.util.TreeSet;

/** The public face is the document's, word for word, and nothing else of the class can be seen. */
public final class FaceTest {
    private static final Checks CHECKS = new Checks();
    private static final Set<String> FACE = new TreeSet<>(Set.of(
        "public SectorSeal()",
        "public void SectorSeal.key(long,long,long,long)",
        "public long SectorSeal.put(int,long) throws java.lang.IndexOutOfBoundsException",
        "public long SectorSeal.get(int) throws java.lang.IndexOutOfBoundsException",
        "public long SectorSeal.sector(int,boolean) throws java.lang.IllegalArgumentException",
        "public long SectorSeal.block(int,boolean,boolean) throws java.lang.IndexOutOfBoundsException",
        "public long SectorSeal.sum()"));

    public static void main(String[] args) {
        CHECKS.due("the class", Modifier.toString(SectorSeal.class.getModifiers()), "public final");
        CHECKS.due("the members that can be seen", visibleMembers(), FACE);
        CHECKS.end();
    }

    private static Set<String> visibleMembers() {
        Set<String> seen = new TreeSet<>();
        for (Constructor<?> constructor : SectorSeal.class.getDeclaredConstructors()) {
            keepVisible(seen, constructor.getModifiers(), constructor.toString());
        }
        for (Method method : SectorSeal.class.getDeclaredMethods()) {
            keepVisible(seen, method.getModifiers(), method.toString());
        }
        for (Field field : SectorSeal.class.getDeclaredFields()) {
            keepVisible(seen, field.getModifiers(), field.toString());
        }
        return seen;
    }

    private static void keepVisible(Set<String> seen, int modifiers, String member) {
        if (!Modifier.isPrivate(modifiers)) {
            seen.add(member);
        }
    }
}
