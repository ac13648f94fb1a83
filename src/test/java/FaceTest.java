import java.lang.reflect.Constructor;
import java.lang.reflect.Field;
import java.lang.reflect.Method;
import java.lang.reflect.Modifier;
import java.util.Set;
import java.util.TreeSet;

/** The class has the document's face and no other member that can be seen from outside. */
public final class FaceTest {
    private static final String[] FACE = {
        "boolean unit(int)", "int rules()", "int name()", "boolean glyph(int,int)", "boolean kern(int,int,int)",
        "int height(int)", "int width(int,int)", "int way(int,int,int)", "boolean goal(int,int)", "int board(int)",
        "boolean on(int,int,int)", "boolean wide(int,int)", "int row(int,int)", "int distance(int,int)",
        "int size(int,int,int)", "int drawn(int,int,int,int)", "boolean shows(int,int)", "int breaks(int,int)",
        "int count(int)",
    };

    private static final Check CHECK = new Check();

    public static void main(String[] args) {
        checkClass();
        checkMethods();
        checkFields();
        checkInside();
        CHECK.finish();
    }

    private static void checkClass() {
        CHECK.due("modifiers", SignBoards.class.getModifiers(), Modifier.PUBLIC | Modifier.FINAL);
        Constructor<?>[] made = SignBoards.class.getDeclaredConstructors();
        CHECK.due("constructors", made.length, 1);
        CHECK.due("constructor is public", Modifier.isPublic(made[0].getModifiers()), true);
        CHECK.due("constructor's parameters", made[0].getParameterCount(), 0);
    }

    private static void checkMethods() {
        Set<String> missing = new TreeSet<>(Set.of(FACE));
        Set<String> names = new TreeSet<>();
        for (String each : FACE) {
            names.add(each.substring(each.indexOf(' ') + 1, each.indexOf('(')));
        }
        for (Method each : SignBoards.class.getDeclaredMethods()) {
            boolean hidden = Modifier.isPrivate(each.getModifiers()) && !names.contains(each.getName());
            boolean face = each.getModifiers() == Modifier.PUBLIC && missing.remove(told(each));
            CHECK.due("method " + told(each) + " is of the face or hidden", face || hidden, true);
        }
        CHECK.due("missing methods " + missing, missing.size(), 0);
    }

    private static String told(Method method) {
        StringBuilder text = new StringBuilder(method.getReturnType().getName());
        text.append(' ').append(method.getName()).append('(');
        for (Class<?> each : method.getParameterTypes()) {
            text.append(text.charAt(text.length() - 1) == '(' ? "" : ",").append(each.getName());
        }
        return text.append(')').toString();
    }

    private static void checkFields() {
        CHECK.due("BAD", SignBoards.BAD, -1);
        for (Field each : SignBoards.class.getDeclaredFields()) {
            boolean face = each.getName().equals("BAD") && each.getType() == int.class
                && each.getModifiers() == (Modifier.PUBLIC | Modifier.STATIC | Modifier.FINAL);
            CHECK.due("field " + each.getName() + " is BAD or hidden",
                face || Modifier.isPrivate(each.getModifiers()), true);
        }
    }

    private static void checkInside() {
        Class<?>[] inside = SignBoards.class.getDeclaredClasses();
        CHECK.due("there are at most 12 classes", inside.length < 12, true);
        for (Class<?> each : inside) {
            int modifiers = each.getModifiers();
            CHECK.due("class " + each.getName() + " is static", Modifier.isStatic(modifiers), true);
            CHECK.due("class " + each.getName() + " is hidden",
                !Modifier.isPublic(modifiers) && !Modifier.isProtected(modifiers), true);
        }
    }
}
