import java.lang.reflect.Constructor;
import java.lang.reflect.Field;
import java.lang.reflect.Member;
import java.lang.reflect.Method;
import java.lang.reflect.Modifier;
import java.util.Set;
import java.util.TreeSet;

/** The public face: exactly the document's constants, constructor and methods, the rest private. */
public final class FaceTest {
    private static final Checks CHECKS = new Checks();

    private static final Set<String> METHODS = Set.of(
        "int line(int,int,long,long)", "int load(int,int,long,int)",
        "int option(int,int,int,long)", "int waits(int,long)", "int late(int,long)",
        "int tell(int,long)", "long solve()", "int chosen(int)", "long arrival(int)",
        "long departs(int)", "int none(int)", "int acts()");
    private static final Set<String> CONSTANTS = Set.of("UNKNOWN", "OUTSIDE", "STATE", "ROOM");

    public static void main(String[] args) {
        Class<LateRoutes> face = LateRoutes.class;
        CHECKS.isTrue("class is public", Modifier.isPublic(face.getModifiers()));
        CHECKS.isTrue("class is final", Modifier.isFinal(face.getModifiers()));
        constants();
        methods(face);
        fields(face);
        constructors(face);
        nestedClasses(face);
        CHECKS.end();
    }

    private static void constants() {
        CHECKS.due("UNKNOWN", LateRoutes.UNKNOWN, -11);
        CHECKS.due("OUTSIDE", LateRoutes.OUTSIDE, -12);
        CHECKS.due("STATE", LateRoutes.STATE, -13);
        CHECKS.due("ROOM", LateRoutes.ROOM, -14);
    }

    private static void methods(Class<?> face) {
        Set<String> seen = new TreeSet<>();
        Set<String> publicNames = new TreeSet<>();
        for (Method method : face.getDeclaredMethods()) {
            if (isPrivate(method) || method.isSynthetic()) {
                continue;
            }
            CHECKS.isTrue(method + " is public", Modifier.isPublic(method.getModifiers()));
            CHECKS.isTrue(method + " is not static", !Modifier.isStatic(method.getModifiers()));
            seen.add(signature(method));
            publicNames.add(method.getName());
        }
        CHECKS.isTrue("methods " + seen, seen.equals(new TreeSet<>(METHODS)));
        for (Method method : face.getDeclaredMethods()) {
            if (isPrivate(method)) {
                CHECKS.isTrue(method + " has a name of its own",
                    !publicNames.contains(method.getName()));
            }
        }
    }

    private static void fields(Class<?> face) {
        Set<String> seen = new TreeSet<>();
        for (Field field : face.getDeclaredFields()) {
            int is = field.getModifiers();
            if (!isPrivate(field)) {
                CHECKS.isTrue(field + " is a public constant of int", Modifier.isPublic(is)
                    && Modifier.isStatic(is) && field.getType() == int.class);
                seen.add(field.getName());
            }
            if (Modifier.isStatic(is)) {
                CHECKS.isTrue(field + " is final", Modifier.isFinal(is));
            }
        }
        CHECKS.isTrue("constants " + seen, seen.equals(new TreeSet<>(CONSTANTS)));
    }

    private static void constructors(Class<?> face) {
        Constructor<?>[] all = face.getDeclaredConstructors();
        CHECKS.due("constructors", all.length, 1);
        CHECKS.due("parameters of the constructor", all[0].getParameterCount(), 0);
        CHECKS.isTrue("constructor is public", Modifier.isPublic(all[0].getModifiers()));
    }

    private static void nestedClasses(Class<?> face) {
        for (Class<?> nested : face.getDeclaredClasses()) {
            int is = nested.getModifiers();
            CHECKS.isTrue(nested + " is static", Modifier.isStatic(is));
            CHECKS.isTrue(nested + " is hidden", !Modifier.isPublic(is) && !Modifier.isProtected(is));
        }
    }

    private static boolean isPrivate(Member member) {
        return Modifier.isPrivate(member.getModifiers());
    }

    private static String signature(Method method) {
        StringBuilder text = new StringBuilder();
        text.append(method.getReturnType().getName()).append(' ').append(method.getName());
        text.append('(');
        for (int i = 0; i < method.getParameterCount(); i++) {
            text.append(i == 0 ? "" : ",").append(method.getParameterTypes()[i].getName());
        }
        return text.append(')').toString();
    }
}
