import java.io.IOException;
import java.lang.reflect.Constructor;
import java.lang.reflect.Field;
import java.lang.reflect.Method;
import java.lang.reflect.Modifier;
import java.nio.file.Files;
import java.nio.file.Path;
import java.util.Arrays;
import java.util.Set;
import java.util.TreeSet;

/** The public face is the document's and nothing more, and the class keeps to rules that can be seen from outside. */
public final class FaceTest {
    private static final Checks CHECKS = new Checks();

    private static final Set<String> METHODS = new TreeSet<>(Arrays.asList("act4", "guard4", "clear0", "run2", "told1",
            "caught1", "register1", "item2", "row2", "onBelt2", "counted2"));

    public static void main(String[] args) throws IOException {
        constants();
        methods();
        nothingInheritedButFromObject();
        classesInside();
        noExceptionsInSource();
        CHECKS.end();
    }

    private static void holds(String what, boolean so) {
        CHECKS.due(what, 1, so ? 1 : 0);
    }

    private static void constants() {
        CHECKS.due("NONE", -1, BaggageHall.NONE);
        CHECKS.due("OUTSIDE", -101, BaggageHall.OUTSIDE);
        CHECKS.due("ROOM", -102, BaggageHall.ROOM);
        Set<String> open = new TreeSet<>();
        for (Field field : BaggageHall.class.getDeclaredFields()) {
            if (!Modifier.isPrivate(field.getModifiers())) {
                open.add(field.getName());
                holds(field.getName() + " is an int constant", field.getType() == int.class
                        && Modifier.isPublic(field.getModifiers()) && Modifier.isStatic(field.getModifiers())
                        && Modifier.isFinal(field.getModifiers()));
            }
        }
        holds("the constants " + open, open.equals(new TreeSet<>(Arrays.asList("NONE", "OUTSIDE", "ROOM"))));
    }

    private static void methods() {
        holds("public and final", Modifier.isPublic(BaggageHall.class.getModifiers())
                && Modifier.isFinal(BaggageHall.class.getModifiers()));
        Constructor<?>[] constructors = BaggageHall.class.getDeclaredConstructors();
        holds("one public constructor without numbers", constructors.length == 1
                && constructors[0].getParameterCount() == 0 && Modifier.isPublic(constructors[0].getModifiers()));
        Set<String> open = new TreeSet<>();
        for (Method method : BaggageHall.class.getDeclaredMethods()) {
            if (!Modifier.isPrivate(method.getModifiers())) {
                open.add(method.getName() + method.getParameterCount());
                holds(method + " is public, of the object, over ints", Modifier.isPublic(method.getModifiers())
                        && !Modifier.isStatic(method.getModifiers()) && method.getReturnType() == int.class
                        && Arrays.stream(method.getParameterTypes()).allMatch(type -> type == int.class));
            }
        }
        holds("the methods " + open, open.equals(METHODS));
    }

    private static void nothingInheritedButFromObject() {
        holds("no class above it", BaggageHall.class.getSuperclass() == Object.class);
        holds("no interface above it", BaggageHall.class.getInterfaces().length == 0);
    }

    private static void classesInside() {
        for (Class<?> inside : BaggageHall.class.getDeclaredClasses()) {
            holds(inside + " is static and not open", Modifier.isStatic(inside.getModifiers())
                    && !Modifier.isPublic(inside.getModifiers()) && !Modifier.isProtected(inside.getModifiers()));
            staticFieldsAreFinal(inside);
        }
        staticFieldsAreFinal(BaggageHall.class);
        Set<String> hidden = new TreeSet<>();
        for (Method method : BaggageHall.class.getDeclaredMethods()) {
            if (Modifier.isPrivate(method.getModifiers())) {
                hidden.add(method.getName());
            }
        }
        for (String open : METHODS) {
            holds("no private method named as " + open, !hidden.contains(open.substring(0, open.length() - 1)));
        }
    }

    private static void staticFieldsAreFinal(Class<?> owner) {
        for (Field field : owner.getDeclaredFields()) {
            holds(field + " is final if it is static",
                    !Modifier.isStatic(field.getModifiers()) || Modifier.isFinal(field.getModifiers()));
        }
    }

    private static void noExceptionsInSource() throws IOException {
        String source = Files.readString(Path.of("src/main/java/BaggageHall.java"))
                .replaceAll("(?s)/\\*.*?\\*/", "").replaceAll("//[^\n]*", "");
        for (String word : new String[] {"throw", "throws", "try", "catch", "synchronized", "assert", "import", "package"}) {
            holds("no '" + word + "' in the class", !source.matches("(?s).*\\b" + word + "\\b.*"));
        }
    }
}
