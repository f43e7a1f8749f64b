import java.lang.reflect.Constructor;
import java.lang.reflect.Field;
import java.lang.reflect.Method;
import java.lang.reflect.Modifier;
import java.util.Set;
import java.util.TreeSet;

/** The class has the public face of the document, and nothing else that can be seen from outside. */
public final class FaceTest {
    private static final String[] FACE = {
        "public static final int LimbWorks.NONE",
        "public LimbWorks()",
        "public int LimbWorks.body(int,boolean)",
        "public boolean LimbWorks.place(int,int,int,int)",
        "public boolean LimbWorks.tilt(int,int)",
        "public boolean LimbWorks.mass(int,int)",
        "public boolean LimbWorks.centre(int,int,int,int)",
        "public boolean LimbWorks.inertia(int,int,int,int)",
        "public boolean LimbWorks.products(int,int,int,int)",
        "public boolean LimbWorks.joint(int,int,int,int)",
        "public boolean LimbWorks.torque(int,int)",
        "public void LimbWorks.gravity(int,int,int)",
        "public int LimbWorks.needs(int)",
        "public int LimbWorks.matrix(int,int)",
        "public int LimbWorks.bias(int)",
        "public int LimbWorks.forward()",
        "public int LimbWorks.acceleration(int)",
        "public int LimbWorks.energy()",
        "public int LimbWorks.where(int,int)",
        "public int LimbWorks.weight(int)",
        "public void LimbWorks.step(int)",
    };

    public static void main(String[] args) {
        Check check = new Check();
        Set<String> want = new TreeSet<>(Set.of(FACE));
        Set<String> got = new TreeSet<>();
        for (Field field : LimbWorks.class.getDeclaredFields()) {
            if (!Modifier.isPrivate(field.getModifiers())) {
                got.add(field.toString());
            }
        }
        for (Constructor<?> constructor : LimbWorks.class.getDeclaredConstructors()) {
            got.add(constructor.toString());
        }
        Set<String> publicNames = new TreeSet<>();
        for (Method method : LimbWorks.class.getDeclaredMethods()) {
            if (!Modifier.isPrivate(method.getModifiers())) {
                got.add(method.toString());
                publicNames.add(method.getName());
            }
        }
        for (String member : want) {
            check.due("has " + member, got.contains(member), true);
        }
        for (String member : got) {
            check.due("the document has " + member, want.contains(member), true);
        }
        for (Method method : LimbWorks.class.getDeclaredMethods()) {
            if (Modifier.isPrivate(method.getModifiers())) {
                check.due(method + " bears a public name", publicNames.contains(method.getName()), false);
            }
        }
        check.due("the class is final", Modifier.isFinal(LimbWorks.class.getModifiers()), true);
        check.due("NONE", LimbWorks.NONE, -1);
        for (Class<?> inside : LimbWorks.class.getDeclaredClasses()) {
            check.due(inside + " is static", Modifier.isStatic(inside.getModifiers()), true);
            check.due(inside + " is public", Modifier.isPublic(inside.getModifiers()), false);
        }
        check.end();
    }
}
