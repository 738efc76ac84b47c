import java.lang.reflect.Constructor;
import java.lang.reflect.Field;
import java.lang.reflect.Method;
import java.lang.reflect.Modifier;
import java.util.ArrayList;
import java.util.Arrays;
import java.util.HashSet;
import java.util.List;
import java.util.Set;
import java.util.TreeSet;

/** The public face is the document's, and rule 1 of LANGUAGE.md holds. */
public final class FaceTest {
    private static final String[] FACE = {
        "int bar(int) IllegalArgumentException UnsupportedOperationException",
        "int key(int,int) IndexOutOfBoundsException IllegalArgumentException UnsupportedOperationException",
        "int leak(int,int) IndexOutOfBoundsException IllegalArgumentException UnsupportedOperationException",
        "int drop(int,int,int) IndexOutOfBoundsException IllegalArgumentException UnsupportedOperationException",
        "int rest(int) IndexOutOfBoundsException UnsupportedOperationException",
        "int lift() UnsupportedOperationException",
        "int limit(int) IllegalArgumentException UnsupportedOperationException",
        "int tune(int,int) IndexOutOfBoundsException IllegalArgumentException UnsupportedOperationException",
        "int tinOf(int,int) IndexOutOfBoundsException IllegalArgumentException",
        "int soundOf(int,int) IndexOutOfBoundsException IllegalArgumentException",
        "int barOf(int,int) IndexOutOfBoundsException IllegalArgumentException",
        "int partOf(int,int,int) IndexOutOfBoundsException IllegalArgumentException",
        "int at(int) NoSuchElementException",
        "int faults(int,boolean) IllegalArgumentException",
        "int firstFault(int) IllegalArgumentException NoSuchElementException",
        "boolean isClean()",
        "int wouldFault(int,int) IndexOutOfBoundsException IllegalArgumentException NoSuchElementException",
        "int bestHeight(int) IndexOutOfBoundsException NoSuchElementException",
        "int walk(boolean)",
        "int goes(boolean)",
        "int span()",
        "int withPitch(int) IllegalArgumentException",
        "int loudest(int) NoSuchElementException",
        "int highest(int) NoSuchElementException",
        "int line(int) IndexOutOfBoundsException",
        "int tinLine(int) IndexOutOfBoundsException",
        "char character(int) IndexOutOfBoundsException",
        "int append(char) IllegalStateException",
        "int run() IllegalArgumentException UnsupportedOperationException",
        "int errorPosition()",
        "int refusal(boolean) NoSuchElementException",
        "int account(int) IllegalArgumentException",
        "boolean isWell()",
        "double meanPitch() ArithmeticException",
        "float filledShare() ArithmeticException",
        "int undo() IllegalStateException",
        "int save()",
        "int restore() IllegalStateException",
    };

    private FaceTest() {
    }

    public static void main(String[] args) {
        Class<?> face = TinRoofScore.class;
        Due.is("modifiers", face.getModifiers(), Modifier.PUBLIC | Modifier.FINAL);
        Set<String> methods = new TreeSet<>();
        Set<String> names = new HashSet<>();
        for (Method method : face.getDeclaredMethods()) {
            if (!Modifier.isPrivate(method.getModifiers())) {
                methods.add(written(method));
                names.add(method.getName());
            }
        }
        Due.is("face", methods, new TreeSet<>(Arrays.asList(FACE)));
        Constructor<?>[] constructors = face.getDeclaredConstructors();
        Due.is("constructors", constructors.length, 1);
        Due.is("constructor", Modifier.toString(constructors[0].getModifiers()) + constructors[0].getParameterCount(), "public0");
        checkFields(face);
        checkPrivateNames(face, names);
        for (Class<?> inside : face.getDeclaredClasses()) {
            Due.is(inside.getName() + " static", Modifier.isStatic(inside.getModifiers()), true);
            Due.is(inside.getName() + " public", Modifier.isPublic(inside.getModifiers()), false);
            checkFields(inside);
            checkPrivateNames(inside, names);
        }
        Due.end();
    }

    private static String written(Method method) {
        List<String> types = new ArrayList<>();
        for (Class<?> type : method.getParameterTypes()) {
            types.add(type.getSimpleName());
        }
        StringBuilder text = new StringBuilder();
        text.append(Modifier.isPublic(method.getModifiers()) && !Modifier.isStatic(method.getModifiers()) ? "" : "? ");
        text.append(method.getReturnType().getSimpleName()).append(' ').append(method.getName());
        text.append('(').append(String.join(",", types)).append(')');
        for (Class<?> type : method.getExceptionTypes()) {
            text.append(' ').append(type.getSimpleName());
        }
        return text.toString();
    }

    private static void checkFields(Class<?> type) {
        for (Field field : type.getDeclaredFields()) {
            int modifiers = field.getModifiers();
            if (!field.isEnumConstant()) {
                Due.is(field + " private", Modifier.isPrivate(modifiers), true);
            }
            if (Modifier.isStatic(modifiers)) {
                Due.is(field + " final", Modifier.isFinal(modifiers), true);
            }
        }
    }

    private static void checkPrivateNames(Class<?> type, Set<String> names) {
        for (Method method : type.getDeclaredMethods()) {
            if (Modifier.isPrivate(method.getModifiers())) {
                Due.is(method + " bears a public name", names.contains(method.getName()), false);
            }
        }
    }
}
