import java.lang.reflect.Constructor;
import java.lang.reflect.Executable;
import java.lang.reflect.Field;
import java.lang.reflect.Method;
import java.lang.reflect.Modifier;
import java.util.Arrays;
import java.util.TreeSet;

/** The document's face, and rules 1 and 5 of LANGUAGE.md as far as the class file shows them. */
public final class FaceTest {
    private static final String[] FACE = {
        "int askFor(int) throws IllegalArgumentException",
        "int count(int)",
        "int group(int,int) throws IllegalArgumentException,IllegalStateException",
        "int queued(int,int) throws IllegalArgumentException",
        "int reason(int) throws IllegalArgumentException",
        "int receipt(int) throws IllegalArgumentException",
        "int resubmit(int) throws IllegalArgumentException,IllegalStateException",
        "int send(int) throws IllegalArgumentException",
        "int sign(int,int) throws IllegalArgumentException",
        "int trace(int,int) throws IllegalArgumentException",
        "boolean open(int,boolean) throws IllegalArgumentException",
        "boolean rerun(int,int) throws IllegalArgumentException,IllegalStateException",
        "void clerk(int,char) throws IllegalArgumentException,IllegalStateException",
        "void cut()",
        "void route(int,int,int) throws IllegalArgumentException,IllegalStateException",
    };
    private static final Check check = new Check("FaceTest");

    public static void main(String[] args) {
        constants();
        members();
        nestedClasses();
        check.end();
    }

    private static void constants() {
        check.same("NONE", RelayDesk.NONE, -1);
        check.same("TAKEN", RelayDesk.TAKEN, 1);
        check.same("IGNORED", RelayDesk.IGNORED, 2);
        check.same("CASE", RelayDesk.CASE, 3);
        check.same("FULL", RelayDesk.FULL, 4);
    }

    private static void members() {
        check.same("the class is public and final", RelayDesk.class.getModifiers(), Modifier.PUBLIC | Modifier.FINAL);
        TreeSet<String> methods = new TreeSet<>();
        TreeSet<String> names = new TreeSet<>();
        for (Method method : RelayDesk.class.getDeclaredMethods()) {
            if (!Modifier.isPrivate(method.getModifiers())) {
                methods.add(signature(method));
                names.add(method.getName());
            }
        }
        check.same("the methods", methods.toString(), new TreeSet<>(Arrays.asList(FACE)).toString());
        for (Method method : RelayDesk.class.getDeclaredMethods()) {
            boolean isPrivate = Modifier.isPrivate(method.getModifiers());
            check.same(method + " bears a public name", isPrivate && names.contains(method.getName()), false);
        }
        TreeSet<String> constants = new TreeSet<>();
        for (Field field : RelayDesk.class.getDeclaredFields()) {
            if (!Modifier.isPrivate(field.getModifiers())) {
                constants.add(field.getName());
            }
        }
        check.same("the constants", constants.toString(), "[CASE, FULL, IGNORED, NONE, TAKEN]");
        Constructor<?>[] constructors = RelayDesk.class.getDeclaredConstructors();
        check.same("one constructor", constructors.length, 1);
        check.same("its parameters", constructors[0].getParameterCount(), 0);
        check.same("it is public", Modifier.isPublic(constructors[0].getModifiers()), true);
    }

    private static void nestedClasses() {
        staticFieldsAreFinal(RelayDesk.class);
        for (Class<?> nested : RelayDesk.class.getDeclaredClasses()) {
            boolean isOpen = (nested.getModifiers() & (Modifier.PUBLIC | Modifier.PROTECTED)) != 0;
            check.same(nested + " is open to all", isOpen, false);
            check.same(nested + " is static", Modifier.isStatic(nested.getModifiers()), true);
            staticFieldsAreFinal(nested);
        }
    }

    private static void staticFieldsAreFinal(Class<?> type) {
        for (Field field : type.getDeclaredFields()) {
            if (Modifier.isStatic(field.getModifiers())) {
                check.same(field + " is final", Modifier.isFinal(field.getModifiers()), true);
            }
        }
    }

    private static String signature(Method method) {
        String thrown = names(method.getExceptionTypes());
        return method.getReturnType().getSimpleName() + " " + method.getName()
            + "(" + names(((Executable) method).getParameterTypes()) + ")" + (thrown.isEmpty() ? "" : " throws " + thrown);
    }

    private static String names(Class<?>[] types) {
        StringBuilder names = new StringBuilder();
        for (Class<?> type : types) {
            names.append(names.length() == 0 ? "" : ",").append(type.getSimpleName());
        }
        return names.toString();
    }
}
