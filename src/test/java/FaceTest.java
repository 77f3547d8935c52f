import java.lang.reflect.Constructor;
import java.lang.reflect.Field;
import java.lang.reflect.Member;
import java.lang.reflect.Method;
import java.lang.reflect.Modifier;
import java.util.Arrays;
import java.util.Set;
import java.util.TreeSet;

/** The public face is the document's and nothing more, and the classes inside are as LANGUAGE.md wants them. */
public final class FaceTest {
    private static final String[] FACE = {
        "boolean contains(int, int) IllegalArgumentException",
        "boolean has(int) IllegalArgumentException",
        "boolean word(int, int, long) IllegalArgumentException",
        "int compare(int, int) IllegalArgumentException",
        "int feed(long, int) IllegalArgumentException IllegalStateException",
        "int least(int) IllegalArgumentException",
        "int letter(int) IndexOutOfBoundsException",
        "int place()",
        "int read(int) IllegalArgumentException",
        "int size()",
        "int states(int) IllegalArgumentException",
        "long count(int, int) IllegalArgumentException",
        "void turn(int, int) IllegalArgumentException",
    };

    public static void main(String[] args) {
        Check check = new Check("the face");
        Set<String> found = new TreeSet<>();
        for (Method method : WordSets.class.getDeclaredMethods()) {
            if (!Modifier.isPrivate(method.getModifiers())) {
                found.add(described(method));
                isPublic(check, method);
            }
        }
        check.equal("methods", found.toString(), new TreeSet<>(Arrays.asList(FACE)).toString());
        for (Field field : WordSets.class.getDeclaredFields()) {
            check.equal("private: " + field, Modifier.isPrivate(field.getModifiers()), true);
        }
        Constructor<?>[] constructors = WordSets.class.getDeclaredConstructors();
        check.equal("constructors", constructors.length, 1);
        check.equal("parameters of the constructor", constructors[0].getParameterCount(), 0);
        isPublic(check, constructors[0]);
        int modifiers = WordSets.class.getModifiers();
        check.equal("public and final", Modifier.isPublic(modifiers) && Modifier.isFinal(modifiers), true);
        noPrivateNamesake(check);
        for (Class<?> inside : WordSets.class.getDeclaredClasses()) {
            isInside(check, inside);
        }
        staticFieldsAreFinal(check, WordSets.class);
        check.end();
    }

    private static void noPrivateNamesake(Check check) {
        for (Method method : WordSets.class.getDeclaredMethods()) {
            if (Modifier.isPrivate(method.getModifiers())) {
                for (String member : FACE) {
                    check.equal(method + " and " + member, member.contains(" " + method.getName() + "("), false);
                }
            }
        }
    }

    private static void isInside(Check check, Class<?> inside) {
        int modifiers = inside.getModifiers();
        check.equal("static: " + inside, Modifier.isStatic(modifiers), true);
        check.equal("seen: " + inside, Modifier.isPublic(modifiers) || Modifier.isProtected(modifiers), false);
        staticFieldsAreFinal(check, inside);
    }

    private static void staticFieldsAreFinal(Check check, Class<?> owner) {
        for (Field field : owner.getDeclaredFields()) {
            int modifiers = field.getModifiers();
            check.equal("final: " + field, Modifier.isFinal(modifiers) || !Modifier.isStatic(modifiers), true);
        }
    }

    private static void isPublic(Check check, Member member) {
        int modifiers = member.getModifiers();
        check.equal("public: " + member, Modifier.isPublic(modifiers) && !Modifier.isStatic(modifiers), true);
    }

    private static String described(Method method) {
        StringBuilder text = new StringBuilder(method.getReturnType() + " " + method.getName() + "(");
        String gap = "";
        for (Class<?> type : method.getParameterTypes()) {
            text.append(gap).append(type);
            gap = ", ";
        }
        text.append(")");
        for (Class<?> type : method.getExceptionTypes()) {
            text.append(" ").append(type.getSimpleName());
        }
        return text.toString();
    }
}
