import java.io.IOException;
import java.lang.reflect.Constructor;
import java.lang.reflect.Field;
import java.lang.reflect.Method;
import java.lang.reflect.Modifier;
import java.nio.file.Files;
import java.nio.file.Path;
import java.util.Set;
import java.util.TreeSet;
import java.util.regex.Pattern;

/** The public face, to the letter, and the rules of the language that can be looked up. */
public final class FaceTest {
    private static final Set<String> METHODS = Set.of(
        "public long peek(int)",
        "public int poke(int,long)",
        "public int begin(int,int,int,int)",
        "public int stop(boolean)",
        "public int ring(int,int)",
        "public int seen(int,int)",
        "public int run(int)",
        "public int interrupts(int)",
        "public long block(int,int,boolean)",
        "public int queue(int,int)",
        "public int count(int)");
    private static final Set<String> NAMES = Set.of("peek", "poke", "begin", "stop", "ring",
        "seen", "run", "interrupts", "block", "queue", "count");
    private static final String[] FORBIDDEN = {
        "->", "::", "\\bthrow\\b", "\\btry\\b", "\\bfinally\\b", "\\bsynchronized\\b",
        "\\bassert\\b", "Exact\\b", "\\bjava\\.(?!util\\.Arrays;)", "\\bpackage\\b",
        "\\bstatic\\s*\\{", "\\bdouble\\b", "\\bfloat\\b", "\\bequals\\b", "\\bhashCode\\b"
    };

    public static void main(String[] args) throws IOException {
        Class<?> face = DoorbellDrive.class;
        Check.due("modifiers", face.getModifiers(), Modifier.PUBLIC | Modifier.FINAL);
        Check.due("REFUSED", DoorbellDrive.REFUSED, -1);
        Check.due("NONE", DoorbellDrive.NONE, -2);
        Check.due("OFF", DoorbellDrive.OFF, -3);
        constructors(face);
        methods(face);
        fields(face);
        nestedClasses(face);
        source();
        Check.end();
    }

    private static void constructors(Class<?> face) {
        Constructor<?>[] constructors = face.getDeclaredConstructors();
        Check.due("constructors", constructors.length, 1);
        Check.so("DoorbellDrive() is public", Modifier.isPublic(constructors[0].getModifiers())
            && constructors[0].getParameterCount() == 0);
    }

    private static void methods(Class<?> face) {
        Set<String> found = new TreeSet<>();
        for (Method method : face.getDeclaredMethods()) {
            fewParameters(method);
            if (Modifier.isPrivate(method.getModifiers())) {
                Check.so(method + " bears a name of its own", !NAMES.contains(method.getName()));
            } else {
                found.add(method.toString().replace("DoorbellDrive.", ""));
            }
        }
        Check.so("methods: " + found, found.equals(METHODS));
    }

    private static void fields(Class<?> face) {
        Set<String> open = new TreeSet<>();
        for (Field field : face.getDeclaredFields()) {
            staticIsConstant(field);
            if (!Modifier.isPrivate(field.getModifiers())) {
                open.add(field.getName());
                Check.due(field.getName(), field.getModifiers(),
                    Modifier.PUBLIC | Modifier.STATIC | Modifier.FINAL);
            }
        }
        Check.so("constants: " + open, open.equals(Set.of("REFUSED", "NONE", "OFF")));
    }

    private static void staticIsConstant(Field field) {
        if (Modifier.isStatic(field.getModifiers())) {
            Check.so(field + " is final and plain",
                Modifier.isFinal(field.getModifiers()) && field.getType() == int.class);
        }
    }

    private static void nestedClasses(Class<?> face) {
        Class<?>[] nested = face.getDeclaredClasses();
        Check.so("at most twelve classes", nested.length < 12);
        for (Class<?> one : nested) {
            int modifiers = one.getModifiers();
            Check.so(one + " is static and not open", Modifier.isStatic(modifiers)
                && !Modifier.isPublic(modifiers) && !Modifier.isProtected(modifiers));
            int own = 0;
            for (Field field : one.getDeclaredFields()) {
                staticIsConstant(field);
                own += Modifier.isStatic(field.getModifiers()) ? 0 : 1;
            }
            Check.so(one + " has at most twenty fields", own <= 20);
            nestedMethods(one);
        }
    }

    private static void nestedMethods(Class<?> nested) {
        for (Method method : nested.getDeclaredMethods()) {
            Check.so(method + " bears a name of its own", !NAMES.contains(method.getName()));
            fewParameters(method);
        }
    }

    private static void fewParameters(Method method) {
        Check.so(method + " takes at most seven parameters", method.getParameterCount() <= 7);
    }

    private static void source() throws IOException {
        String text = Files.readString(Path.of("src/main/java/DoorbellDrive.java"));
        String code = text.replaceAll("(?s)/\\*.*?\\*/", "").replaceAll("//[^\n]*", "");
        for (String forbidden : FORBIDDEN) {
            Check.so("not in the program: " + forbidden,
                !Pattern.compile(forbidden).matcher(code).find());
        }
    }
}
