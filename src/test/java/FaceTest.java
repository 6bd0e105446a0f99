import java.lang.reflect.Constructor;
import java.lang.reflect.Field;
import java.lang.reflect.Member;
import java.lang.reflect.Method;
import java.lang.reflect.Modifier;
import java.util.Set;
import java.util.TreeSet;

/** The public face is the document's, and nothing else can be seen from outside (LANGUAGE.md, rules 1, 2 and 5). */
public final class FaceTest {
    private static final String[] CONSTANTS = {
        "REFUSED -1", "ABSENT -2", "MALFORMED -3", "STRANGER -4", "OLD -5", "REPEATED -6", "CRASHED -7", "FULL -8",
        "POOR -9"
    };

    private static final String[] METHODS = {
        "int submit(int,int,int)", "boolean corrupt(int)", "int forge(int,int,int,long)",
        "int carry(int,int,int,int,int)", "int pump(int)", "int pending()", "boolean crash(int)",
        "boolean restart(int)", "boolean fuse(int,int)", "int mark(int)", "long sent(int,int,int,int)",
        "int heard(int,int,int,int)", "long accepted(int,int,int)", "int applied(int,int)", "long balance(int,int)",
        "int freed(int,int)", "int kept(int)", "int state(int)"
    };

    public static void main(String[] args) throws Exception {
        Due due = new Due();
        Class<?> face = EchoPayments.class;
        due.isTrue("the class is public and final", isPublic(face.getModifiers()) && Modifier.isFinal(face.getModifiers()));
        due.isTrue("the class has no package", face.getPackageName().isEmpty());
        due.isText("constants", Set.of(CONSTANTS), constants(face));
        due.isText("methods", Set.of(METHODS), methods(face));
        Constructor<?>[] constructors = face.getDeclaredConstructors();
        due.isTrue("one constructor, public, of two ints", constructors.length == 1
                && isPublic(constructors[0].getModifiers())
                && signature(constructors[0].getParameterTypes()).equals("(int,int)"));
        lookAtHidden(due, face);
        due.end();
    }

    private static Set<String> constants(Class<?> face) throws IllegalAccessException {
        Set<String> seen = new TreeSet<>();
        for (Field field : face.getDeclaredFields()) {
            int m = field.getModifiers();
            if (isPublic(m) && Modifier.isStatic(m) && Modifier.isFinal(m) && field.getType() == int.class) {
                seen.add(field.getName() + " " + field.getInt(null));
            }
        }
        return seen;
    }

    private static Set<String> methods(Class<?> face) {
        Set<String> seen = new TreeSet<>();
        for (Method method : face.getDeclaredMethods()) {
            if (isPublic(method.getModifiers()) && !Modifier.isStatic(method.getModifiers())) {
                seen.add(method.getReturnType() + " " + method.getName() + signature(method.getParameterTypes()));
            }
        }
        return seen;
    }

    private static void lookAtHidden(Due due, Class<?> face) {
        due.is("public fields", CONSTANTS.length, face.getFields().length);
        for (Field field : face.getDeclaredFields()) {
            due.isTrue(field + " is public or private", isHidden(field) || isPublic(field.getModifiers()));
            due.isTrue(field + " is final if static",
                    !Modifier.isStatic(field.getModifiers()) || Modifier.isFinal(field.getModifiers()));
        }
        Set<String> names = new TreeSet<>();
        for (Method method : face.getDeclaredMethods()) {
            due.isTrue(method + " is public or private", isHidden(method) || isPublic(method.getModifiers()));
            if (isPublic(method.getModifiers())) {
                names.add(method.getName());
            }
        }
        lookAtNames(due, face, names);
        for (Class<?> inside : face.getDeclaredClasses()) {
            int m = inside.getModifiers();
            due.isTrue(inside + " is static", Modifier.isStatic(m));
            due.isTrue(inside + " is not public or protected", !isPublic(m) && !Modifier.isProtected(m));
            lookAtNames(due, inside, names);
        }
    }

    private static void lookAtNames(Due due, Class<?> owner, Set<String> publicNames) {
        for (Method method : owner.getDeclaredMethods()) {
            if (isHidden(method)) {
                due.isTrue(method + " bears no public name", !publicNames.contains(method.getName()));
            }
        }
    }

    private static boolean isPublic(int modifiers) {
        return Modifier.isPublic(modifiers);
    }

    private static boolean isHidden(Member member) {
        return Modifier.isPrivate(member.getModifiers());
    }

    private static String signature(Class<?>[] types) {
        StringBuilder text = new StringBuilder("(");
        for (int i = 0; i < types.length; i++) {
            text.append(i == 0 ? "" : ",").append(types[i]);
        }
        return text.append(")").toString();
    }
}
