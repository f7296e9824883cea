import java.lang.reflect.Constructor;
import java.lang.reflect.Field;
import java.lang.reflect.Method;
import java.lang.reflect.Modifier;
import java.util.Set;
import java.util.TreeSet;

/** The public face, and rule 1 of LANGUAGE.md: nothing but the face can be seen from outside. */
public final class FaceTest {
    private static final Due DUE = new Due("FaceTest");

    private static final Set<String> FACE = new TreeSet<>(Set.of(
            "int function()", "int variable(int)", "int op(int,int,int,int)", "int compile()", "int length()",
            "int code(int)", "int longs()", "int base(int)", "int address(int,int)", "boolean start()",
            "int run(int)", "int state()", "int spent()", "int next()", "int depth()", "int value(int,int)",
            "int output(int)"));

    public static void main(String[] args) {
        int modifiers = FrameBackEnd.class.getModifiers();
        DUE.is("public final", Modifier.isPublic(modifiers) && Modifier.isFinal(modifiers), true);
        seenMethods();
        seenFields();
        Constructor<?>[] constructors = FrameBackEnd.class.getDeclaredConstructors();
        DUE.is("constructors", constructors.length, 1);
        DUE.is("its parameters", constructors[0].getParameterCount(), 0);
        DUE.is("it is public", Modifier.isPublic(constructors[0].getModifiers()), true);
        DUE.end();
    }

    private static void seenMethods() {
        Set<String> seen = new TreeSet<>();
        Set<String> names = new TreeSet<>();
        for (Method method : FrameBackEnd.class.getDeclaredMethods()) {
            if (!Modifier.isPrivate(method.getModifiers())) {
                seen.add(signature(method));
                names.add(method.getName());
            }
        }
        DUE.is("the face", seen.toString(), FACE.toString());
        for (Method method : FrameBackEnd.class.getDeclaredMethods()) {
            boolean isPrivate = Modifier.isPrivate(method.getModifiers());
            DUE.is(method + " is private with a public name", isPrivate && names.contains(method.getName()), false);
        }
    }

    private static String signature(Method method) {
        StringBuilder text = new StringBuilder(method.getReturnType() + " " + method.getName() + "(");
        String comma = "";
        for (Class<?> type : method.getParameterTypes()) {
            text.append(comma).append(type);
            comma = ",";
        }
        return text.append(")").toString();
    }

    private static void seenFields() {
        for (Field field : FrameBackEnd.class.getDeclaredFields()) {
            DUE.is(field + " is private", Modifier.isPrivate(field.getModifiers()), true);
        }
    }
}
