import java.lang.reflect.Constructor;
import java.lang.reflect.Executable;
import java.lang.reflect.Field;
import java.lang.reflect.Method;
import java.lang.reflect.Modifier;
import java.util.Set;
import java.util.TreeSet;

/** The class shows the document's face and nothing else (LANGUAGE.md, rules 1, 5 and 11). */
public final class FunctionDeskFace {
    private static final String SLOT = " throws IndexOutOfBoundsException";
    private static final String NUMBER = SLOT + " IllegalArgumentException";
    private static final Set<String> FACE = Set.of(
            "NONE int -1",
            "FunctionDesk()",
            "void constant(int boolean)" + SLOT,
            "void variable(int int)" + NUMBER,
            "void join(int int int int)" + NUMBER,
            "void choose(int int int int)" + SLOT,
            "void fix(int int int boolean)" + NUMBER,
            "void some(int int int boolean)" + NUMBER,
            "void put(int int int int)" + NUMBER,
            "void swap(int int int int)" + NUMBER,
            "void nearest(int int int)" + NUMBER,
            "boolean isSame(int int)" + SLOT,
            "boolean truth(int int)" + NUMBER,
            "int count(int)" + SLOT,
            "int next(int int)" + NUMBER,
            "int depends(int)" + SLOT,
            "int size(int)" + SLOT,
            "int sizes(int int)" + NUMBER,
            "int level(int int)" + NUMBER);

    public static void main(String[] args) throws IllegalAccessException {
        Set<String> shown = new TreeSet<>();
        Set<String> publicNames = new TreeSet<>();
        for (Constructor<?> made : FunctionDesk.class.getDeclaredConstructors()) {
            if (isShown(made)) {
                shown.add(written("FunctionDesk", made));
            }
        }
        for (Method method : FunctionDesk.class.getDeclaredMethods()) {
            if (isShown(method)) {
                shown.add(written(method.getReturnType().getSimpleName() + " " + method.getName(), method));
                publicNames.add(method.getName());
                Checks.due(method.getName() + " is public and no static",
                        method.getModifiers(), Modifier.PUBLIC);
            }
        }
        for (Field field : FunctionDesk.class.getDeclaredFields()) {
            if (!Modifier.isPrivate(field.getModifiers()) && !field.isSynthetic()) {
                shown.add(field.getName() + " " + field.getType() + " " + field.getInt(null));
            }
        }
        Checks.due("the face", shown.toString(), new TreeSet<>(FACE).toString());
        Checks.due("public final", FunctionDesk.class.getModifiers(), Modifier.PUBLIC | Modifier.FINAL);
        checkInside(FunctionDesk.class, publicNames);
        for (Class<?> inside : FunctionDesk.class.getDeclaredClasses()) {
            Checks.due(inside + " is static", Modifier.isStatic(inside.getModifiers()), true);
            Checks.due(inside + " is not open",
                    inside.getModifiers() & (Modifier.PUBLIC | Modifier.PROTECTED), 0);
            checkInside(inside, publicNames);
        }
        Checks.end();
    }

    private static void checkInside(Class<?> part, Set<String> publicNames) {
        for (Field field : part.getDeclaredFields()) {
            int kind = field.getModifiers();
            if (Modifier.isStatic(kind) && !field.isSynthetic()) {
                Checks.due("static field is final: " + field, Modifier.isFinal(kind), true);
            }
        }
        for (Method method : part.getDeclaredMethods()) {
            boolean hidden = part != FunctionDesk.class || !Modifier.isPublic(method.getModifiers());
            Checks.due("own name: " + method, hidden && publicNames.contains(method.getName()), false);
            Checks.due("seven parameters: " + method, method.getParameterCount() <= 7, true);
        }
    }

    private static boolean isShown(Executable member) {
        return !Modifier.isPrivate(member.getModifiers()) && !member.isSynthetic();
    }

    private static String written(String name, Executable member) {
        StringBuilder text = new StringBuilder(name);
        text.append('(').append(names(member.getParameterTypes())).append(')');
        if (member.getExceptionTypes().length > 0) {
            text.append(" throws ").append(names(member.getExceptionTypes()));
        }
        return text.toString();
    }

    private static String names(Class<?>[] types) {
        StringBuilder text = new StringBuilder();
        for (Class<?> type : types) {
            text.append(text.length() == 0 ? "" : " ").append(type.getSimpleName());
        }
        return text.toString();
    }
}
