import java.lang.reflect.Constructor;
import java.lang.reflect.Executable;
import java.lang.reflect.Field;
import java.lang.reflect.Method;
import java.lang.reflect.Modifier;
import java.util.Set;
import java.util.TreeSet;

/** The document's public face: every member it names, as it writes it, and no other that can be seen. */
public final class FaceTest {
    private static final String[] FACE = {
        "public static final int NONE",
        "public TideTables()",
        "public int TideTables.level(int) throws IllegalArgumentException",
        "public void TideTables.constituent(int,int,long,long) throws IndexOutOfBoundsException,IllegalArgumentException",
        "public void TideTables.node(int,int,int,long) throws IndexOutOfBoundsException,IllegalArgumentException",
        "public int TideTables.days(int,int) throws IndexOutOfBoundsException,IllegalArgumentException",
        "public int TideTables.first(int) throws IndexOutOfBoundsException",
        "public int TideTables.year(int) throws IndexOutOfBoundsException",
        "public long TideTables.position(int,int) throws IndexOutOfBoundsException",
        "public int TideTables.cosine(long) throws IllegalArgumentException",
        "public int TideTables.height(int) throws IndexOutOfBoundsException",
        "public int TideTables.mean(int,int) throws IllegalArgumentException,IndexOutOfBoundsException",
        "public int TideTables.extremes(int) throws IndexOutOfBoundsException",
        "public int TideTables.extreme(int,int,int) throws IndexOutOfBoundsException,IllegalArgumentException",
        "public int TideTables.line(int,int) throws IndexOutOfBoundsException",
        "public int TideTables.sign(int,int,int) throws IndexOutOfBoundsException",
        "public int TideTables.above(int,int,int) throws IllegalArgumentException,IndexOutOfBoundsException",
    };

    public static void main(String[] args) {
        Set<String> due = new TreeSet<>(Set.of(FACE));
        Checks.same("the face", String.join("\n", seen()), String.join("\n", due));
        Checks.same("the class", Modifier.toString(TideTables.class.getModifiers()), "public final");
        Checks.same("NONE", TideTables.NONE, -1);
        privateNamesAreTheirOwn();
        Checks.end();
    }

    private static Set<String> seen() {
        Set<String> seen = new TreeSet<>();
        for (Field field : TideTables.class.getDeclaredFields()) {
            if (!Modifier.isPrivate(field.getModifiers())) {
                seen.add(Modifier.toString(field.getModifiers()) + " " + field.getType() + " " + field.getName());
            }
        }
        for (Constructor<?> constructor : TideTables.class.getDeclaredConstructors()) {
            addUnlessPrivate(seen, constructor);
        }
        for (Method method : TideTables.class.getDeclaredMethods()) {
            addUnlessPrivate(seen, method);
        }
        return seen;
    }

    private static void addUnlessPrivate(Set<String> seen, Executable member) {
        if (!Modifier.isPrivate(member.getModifiers()) && !member.isSynthetic()) {
            seen.add(member.toString().replace("java.lang.", ""));
        }
    }

    private static void privateNamesAreTheirOwn() {
        for (Method hidden : TideTables.class.getDeclaredMethods()) {
            for (Method open : TideTables.class.getDeclaredMethods()) {
                if (Modifier.isPrivate(hidden.getModifiers()) && Modifier.isPublic(open.getModifiers())) {
                    Checks.same(hidden + " bears a public name", hidden.getName().equals(open.getName()), false);
                }
            }
        }
    }
}
