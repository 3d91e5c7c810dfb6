import java.lang.reflect.Constructor;
import java.lang.reflect.Field;
import java.lang.reflect.Member;
import java.lang.reflect.Method;
import java.lang.reflect.Modifier;
import java.util.Set;
import java.util.TreeSet;

/** The public face, as the document and rules 1 and 5 of LANGUAGE.md ask for it. */
public final class FaceTest {
    private static final Set<String> FACE = Set.of(
        "int add(int,int,int,int)", "int begin(int,int)", "boolean tell(int,int)", "int run(int)", "int clear(boolean)", "int process(int,int)",
        "int queue(int)", "int processes()", "int term(int,int)", "int digest(int,int)");

    public static void main(String[] args) {
        Class<?> face = TurnHost.class;
        Kit.due("public and final", Modifier.isPublic(face.getModifiers()) && Modifier.isFinal(face.getModifiers()), true);
        Constructor<?>[] makers = face.getDeclaredConstructors();
        Kit.due("constructors", makers.length, 1);
        Kit.due("public TurnHost(int)", makers[0].toString().equals("public TurnHost(int)"), true);
        methods(face);
        membersArePrivate(face.getDeclaredFields());
        for (Class<?> inside : face.getDeclaredClasses()) {
            int how = inside.getModifiers();
            Kit.due(inside + " is static and not public", Modifier.isStatic(how) && !Modifier.isPublic(how) && !Modifier.isProtected(how), true);
            noFaceName(inside);
            staticFieldsAreFinal(inside);
        }
        staticFieldsAreFinal(face);
        Kit.finish();
    }

    private static void methods(Class<?> face) {
        Set<String> found = new TreeSet<>();
        for (Method m : face.getDeclaredMethods()) {
            if (!Modifier.isPrivate(m.getModifiers())) {
                Kit.due(m + " is public", Modifier.isPublic(m.getModifiers()), true);
                found.add(m.toString().replace("public ", "").replace("TurnHost.", ""));
            } else {
                noFaceName(m);
            }
        }
        Kit.due("the document's methods " + found, found.equals(FACE), true);
    }

    private static void noFaceName(Class<?> inside) {
        for (Method m : inside.getDeclaredMethods()) {
            noFaceName(m);
        }
    }

    private static void noFaceName(Method m) {
        for (String one : FACE) {
            Kit.due(m + " bears no name of the face", one.contains(" " + m.getName() + "("), false);
        }
    }

    private static void membersArePrivate(Member[] members) {
        for (Member m : members) {
            Kit.due(m + " is private", Modifier.isPrivate(m.getModifiers()), true);
        }
    }

    private static void staticFieldsAreFinal(Class<?> c) {
        for (Field f : c.getDeclaredFields()) {
            if (Modifier.isStatic(f.getModifiers())) {
                Kit.due(f + " is final", Modifier.isFinal(f.getModifiers()), true);
            }
        }
    }
}
