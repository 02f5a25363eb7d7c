import java.lang.reflect.Constructor;
import java.lang.reflect.Field;
import java.lang.reflect.Method;
import java.lang.reflect.Modifier;
import java.util.Set;
import java.util.TreeSet;

/** The public face of the document, whole, and nothing beside it (LANGUAGE.md, rule 1). */
public final class FaceTest {
    private static final String[] FACE = {
        "int strike(int) throws IndexOutOfBoundsException, IllegalStateException",
        "int light(int, int) throws IndexOutOfBoundsException, IllegalStateException",
        "int fresh(int) throws IndexOutOfBoundsException, IllegalStateException",
        "int door(int, boolean) throws IndexOutOfBoundsException",
        "int shield(int, boolean) throws IndexOutOfBoundsException",
        "int draught(int, int) throws IndexOutOfBoundsException, IllegalArgumentException",
        "int set(int) throws IllegalArgumentException",
        "int keep(int, int) throws IndexOutOfBoundsException, IllegalArgumentException, "
            + "IllegalStateException",
        "int read(int) throws IllegalArgumentException",
        "int pass(int) throws IllegalArgumentException",
        "int append(int) throws IllegalArgumentException, IllegalStateException",
        "int clearBuffer()",
        "int firstError()",
        "int play() throws IllegalArgumentException",
        "int undo() throws IllegalStateException",
        "int room(int, int) throws IndexOutOfBoundsException, IllegalArgumentException",
        "int thing(int, int) throws IllegalArgumentException",
        "int count(int) throws IllegalArgumentException",
        "int lasts(int) throws IndexOutOfBoundsException",
        "int nextForgotten()",
        "int carried(int) throws IndexOutOfBoundsException",
        "int needy()",
        "int saves(int) throws IndexOutOfBoundsException",
        "double lit()",
        "long digest()"};

    public static void main(String[] args) {
        int modifiers = CandleRooms.class.getModifiers();
        Check.same("the class is public", 1, Modifier.isPublic(modifiers) ? 1 : 0);
        Check.same("the class is final", 1, Modifier.isFinal(modifiers) ? 1 : 0);
        methods();
        constructors();
        fields();
        nestedClasses();
        Check.end("FaceTest");
    }

    private static String told(Class<?>[] types) {
        StringBuilder text = new StringBuilder();
        for (Class<?> type : types) {
            text.append(text.length() == 0 ? "" : ", ").append(type.getSimpleName());
        }
        return text.toString();
    }

    private static void methods() {
        Set<String> left = new TreeSet<>(Set.of(FACE));
        for (Method method : CandleRooms.class.getDeclaredMethods()) {
            String thrown = told(method.getExceptionTypes());
            String told = method.getReturnType().getSimpleName() + " " + method.getName() + "("
                + told(method.getParameterTypes()) + ")"
                + (thrown.isEmpty() ? "" : " throws " + thrown);
            boolean isPrivate = Modifier.isPrivate(method.getModifiers());
            if (!isPrivate && !left.remove(told)) {
                Check.fail("not a method of the face: " + told);
            }
        }
        Check.same("methods of the face that are missing: " + left, 0, left.size());
    }

    private static void constructors() {
        Constructor<?>[] constructors = CandleRooms.class.getDeclaredConstructors();
        Check.same("constructors", 1, constructors.length);
        Check.same("its parameters", 0, constructors[0].getParameterCount());
        Check.same("it is public", 1, Modifier.isPublic(constructors[0].getModifiers()) ? 1 : 0);
    }

    private static void fields() {
        for (Field field : CandleRooms.class.getDeclaredFields()) {
            boolean isConstant = field.getName().equals("NONE");
            boolean isPrivate = Modifier.isPrivate(field.getModifiers());
            if (isPrivate == isConstant) {
                Check.fail("not as the face has it: " + field);
            }
        }
    }

    private static void nestedClasses() {
        for (Class<?> nested : CandleRooms.class.getDeclaredClasses()) {
            int modifiers = nested.getModifiers();
            if (Modifier.isPublic(modifiers) || Modifier.isProtected(modifiers)) {
                Check.fail("not private: " + nested);
            }
        }
    }
}
