import java.io.IOException;
import java.lang.reflect.Constructor;
import java.lang.reflect.Field;
import java.lang.reflect.Method;
import java.lang.reflect.Modifier;
import java.nio.file.Files;
import java.nio.file.Path;
import java.util.Arrays;
import java.util.List;
import java.util.Set;
import java.util.TreeSet;
import java.util.regex.Matcher;
import java.util.regex.Pattern;
import java.util.stream.Collectors;

/** The public face, and those rules of LANGUAGE.md that a look at members and words can find broken. */
public final class FaceTest {
    static final Set<String> FACE = Set.of(
            "setTide 2", "setSwell 2", "addRock 3", "setKeep 3", "come 1", "relieve 4", "change 4", "bring 4", "cancel 1",
            "exchange 2", "pass 1", "take 1", "restore 1", "undo 0", "append 1", "clearText 0", "run 0", "count 1", "rock 2",
            "store 3", "keeper 2", "turn 2", "sea 2", "landing 2", "landings 3", "cutOff 3", "lasts 2", "doneOn 1", "later 3",
            "nextOut 0", "nextIn 0");
    private static final List<String> FORBIDDEN = List.of("throw", "throws", "try", "catch", "synchronized", "assert", "package",
            "protected", "native", "volatile", "Object", "hashCode", "System.in", "System.out", "System.exit", "Thread", "Random");
    private static final Set<String> IMPORTS = Set.of("java.util.ArrayList", "java.util.List", "java.util.Arrays", "java.util.Iterator");
    private static final Set<Class<?>> CONSTANTS = Set.of(int.class, long.class, boolean.class, char.class, String.class,
            int[].class, long[].class, char[].class, byte[].class);

    private FaceTest() {
    }

    public static void main(String[] arguments) throws IOException {
        constants();
        methods();
        otherMembers();
        classesInside();
        words();
        Script.finish();
    }

    private static void constants() {
        Script.check("INVALID_ARGUMENT", RockWatches.INVALID_ARGUMENT == -1);
        Script.check("ILLEGAL_STATE", RockWatches.ILLEGAL_STATE == -2);
        Script.check("CAPACITY_EXCEEDED", RockWatches.CAPACITY_EXCEEDED == -3);
        Script.check("NONE", RockWatches.NONE == -9);
    }

    private static void methods() {
        Set<String> methods = new TreeSet<>();
        for (Method method : RockWatches.class.getDeclaredMethods()) {
            if (Modifier.isPublic(method.getModifiers())) {
                methods.add(method.getName() + " " + method.getParameterCount());
                Script.check(method + " takes and answers int", method.getReturnType() == int.class
                        && Arrays.stream(method.getParameterTypes()).allMatch(type -> type == int.class)
                        && !Modifier.isStatic(method.getModifiers()));
            } else {
                Script.check(method + " is private", Modifier.isPrivate(method.getModifiers()));
                Script.check(method + " has a name of its own", FACE.stream().noneMatch(call -> call.startsWith(method.getName() + " ")));
            }
        }
        Script.check("methods: " + methods, methods.equals(new TreeSet<>(FACE)));
    }

    private static void otherMembers() {
        Class<?> face = RockWatches.class;
        Script.check("public and final", Modifier.isPublic(face.getModifiers()) && Modifier.isFinal(face.getModifiers()));
        Set<String> fields = Arrays.stream(face.getDeclaredFields()).filter(field -> !Modifier.isPrivate(field.getModifiers()))
                .map(Field::getName).collect(Collectors.toSet());
        Script.check("fields that are not private: " + fields,
                fields.equals(Set.of("INVALID_ARGUMENT", "ILLEGAL_STATE", "CAPACITY_EXCEEDED", "NONE")));
        Constructor<?>[] constructors = face.getDeclaredConstructors();
        Script.check("one public constructor without parameters", constructors.length == 1
                && Modifier.isPublic(constructors[0].getModifiers()) && constructors[0].getParameterCount() == 0);
        membersKeepTheRules(face);
    }

    private static void classesInside() {
        Class<?>[] classes = RockWatches.class.getDeclaredClasses();
        Script.check("some twelve classes at the most", classes.length <= 12);
        for (Class<?> inside : classes) {
            Script.check(inside + " is private or package-visible, and static", Modifier.isStatic(inside.getModifiers())
                    && !Modifier.isPublic(inside.getModifiers()) && !Modifier.isProtected(inside.getModifiers()));
            membersKeepTheRules(inside);
        }
    }

    private static void membersKeepTheRules(Class<?> holder) {
        long fields = Arrays.stream(holder.getDeclaredFields()).filter(field -> !Modifier.isStatic(field.getModifiers())).count();
        Script.check(holder + " has some twenty fields at the most", fields <= 20);
        for (Field field : holder.getDeclaredFields()) {
            Script.check(field + " is no state of the class", !Modifier.isStatic(field.getModifiers()) || field.isSynthetic()
                    || field.isEnumConstant() || Modifier.isFinal(field.getModifiers()) && CONSTANTS.contains(field.getType()));
        }
        for (Method method : holder.getDeclaredMethods()) {
            Script.check(method + " has at most seven parameters", method.getParameterCount() <= 7);
            Script.check(method + " is no lambda", !method.getName().startsWith("lambda$"));
        }
    }

    private static void words() throws IOException {
        String source = Files.readString(Path.of("src/main/java/RockWatches.java"));
        String code = source.replaceAll("(?s)/\\*.*?\\*/", " ").replaceAll("//[^\n]*", " ");
        for (String word : FORBIDDEN) {
            Script.check("the source has the word " + word, !Pattern.compile("\\b" + word + "\\b").matcher(code).find());
        }
        Script.check("the source has a name that ends with Exact", !Pattern.compile("Exact\\b").matcher(code).find());
        Script.check("the source has a method reference", !code.contains("::"));
        Script.check("the source has signs above 127", source.chars().allMatch(sign -> sign <= 127));
        Matcher imports = Pattern.compile("\\bimport\\s+([^;]+);").matcher(code);
        while (imports.find()) {
            Script.check("import of " + imports.group(1), IMPORTS.contains(imports.group(1)));
        }
    }
}
