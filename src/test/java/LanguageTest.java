import java.io.IOException;
import java.lang.reflect.Constructor;
import java.lang.reflect.Field;
import java.lang.reflect.Method;
import java.lang.reflect.Modifier;
import java.nio.file.Files;
import java.nio.file.Path;
import java.util.Arrays;
import java.util.List;
import java.util.Set;
import java.util.TreeSet;
import java.util.regex.Matcher;
import java.util.regex.Pattern;
import java.util.stream.Collectors;

/** The rules of LANGUAGE.md that can be seen from outside: the face, the words of the source, the classes' sizes. */
public final class LanguageTest {
    private static final Check CHECK = new Check();

    private static final List<String> FACE = List.of(
        "int set(int,int)", "int buy(int,int,int)", "int leave(int,int,int)", "int inKind(int,int)", "int endDay()",
        "int quote(int)", "int trade(int)", "int income(int)", "int pay()", "int ofHolder(int,int)", "int count(int)",
        "int order(int,int,int)", "int lastDay(int)", "long price(int)", "int exitIn(int)", "int fairSwing()",
        "int put(long)", "int wipe()", "int fault()", "int carryOut()", "int undo()", "int save(int)", "int restore(int)");
    private static final Set<String> CONSTANTS = Set.of("NO_SUCH", "BAD_VALUE", "BAD_TEXT", "TOO_MANY", "NOT_POSSIBLE",
        "NONE", "CUT", "THRESHOLD", "SWING", "GATE", "COST");

    public static void main(String[] args) throws IOException {
        Check.watch();
        CHECK.part("LANGUAGE.md");
        face();
        classesInside();
        source(Files.readString(Path.of(args.length > 0 ? args[0] : "src/main/java/SwingUnits.java")));
        CHECK.end("LanguageTest");
    }

    private static void face() {
        Class<?> face = SwingUnits.class;
        CHECK.holds("the class is public and final", Modifier.isPublic(face.getModifiers()) && Modifier.isFinal(face.getModifiers()));
        Set<String> methods = new TreeSet<>();
        for (Method m : face.getDeclaredMethods()) {
            if (!Modifier.isPrivate(m.getModifiers())) {
                methods.add(m.getReturnType() + " " + m.getName() + "("
                    + Arrays.stream(m.getParameterTypes()).map(Class::getName).collect(Collectors.joining(",")) + ")");
            }
        }
        CHECK.holds("the methods that are not private are the document's: " + methods, methods.equals(new TreeSet<>(FACE)));
        for (Method m : face.getDeclaredMethods()) {
            CHECK.holds(m.getName() + " is not private with a name of the face", noPrivateOfTheFace(m));
            CHECK.holds(m.getName() + " has at most seven parameters", m.getParameterCount() <= 7);
        }
        CHECK.holds("the face has at most twenty fields beside its constants", fieldsOf(face) <= 20);
        Set<String> fields = new TreeSet<>();
        for (Field f : face.getDeclaredFields()) {
            if (!Modifier.isPrivate(f.getModifiers())) {
                fields.add(f.getName());
            }
        }
        CHECK.holds("the fields that are not private are the document's: " + fields, fields.equals(CONSTANTS));
        Constructor<?>[] constructors = face.getDeclaredConstructors();
        CHECK.holds("there is one constructor, public, without parameters", constructors.length == 1
            && Modifier.isPublic(constructors[0].getModifiers()) && constructors[0].getParameterCount() == 0);
    }

    private static boolean noPrivateOfTheFace(Method m) {
        return !Modifier.isPrivate(m.getModifiers()) || FACE.stream().noneMatch(f -> f.contains(" " + m.getName() + "("));
    }

    private static long fieldsOf(Class<?> one) {
        return Arrays.stream(one.getDeclaredFields()).filter(f -> !Modifier.isStatic(f.getModifiers())).count();
    }

    private static void classesInside() {
        Class<?>[] inside = SwingUnits.class.getDeclaredClasses();
        CHECK.holds("there are at most twelve classes", inside.length < 12);
        for (Class<?> one : inside) {
            int modifiers = one.getModifiers();
            CHECK.holds(one + " is static, and not public or protected", Modifier.isStatic(modifiers)
                && !Modifier.isPublic(modifiers) && !Modifier.isProtected(modifiers));
            CHECK.holds(one + " has no class inside", one.getDeclaredClasses().length == 0);
            CHECK.holds(one + " has at most twenty fields", fieldsOf(one) <= 20);
            for (Method m : one.getDeclaredMethods()) {
                CHECK.holds(one + ": " + m.getName() + " is not private with a name of the face", noPrivateOfTheFace(m));
                CHECK.holds(one + ": " + m.getName() + " has at most seven parameters", m.getParameterCount() <= 7);
            }
            for (Field f : one.getDeclaredFields()) {
                CHECK.holds(one + ": " + f.getName() + " is no static state",
                    !Modifier.isStatic(f.getModifiers()) || Modifier.isFinal(f.getModifiers()));
            }
        }
    }

    private static void source(String text) {
        String code = text.replaceAll("(?s)/\\*.*?\\*/", "").replaceAll("//.*", "");
        for (String word : List.of("throw", "try", "catch", "synchronized", "assert", "package", "Object", "Exception", "Thread",
            "Random", "Map", "Set", "Stream", "var", "strictfp", "native", "volatile", "transient")) {
            CHECK.holds("the source does without " + word, !Pattern.compile("\\b" + word + "\\b").matcher(code).find());
        }
        CHECK.holds("the source does without method references", !code.contains("::"));
        CHECK.holds("the source does without lambdas", code.lines().allMatch(l -> !l.contains("->") || l.matches("\\s*(case|default)\\b.*")));
        CHECK.holds("the source has only plain signs", text.chars().allMatch(c -> c == '\n' || c >= 32 && c < 127));
        CHECK.holds("what is imported is of the library that is listed",
            code.lines().filter(l -> l.startsWith("import")).allMatch(l -> l.matches("import java\\.util\\.(ArrayList|List|Arrays|Iterator);")));
        Matcher library = Pattern.compile("\\b(System|Arrays|Integer|Long|Math)\\.(\\w+)").matcher(code);
        while (library.find()) {
            CHECK.holds(library.group() + " is of the library that is listed", isListed(library.group(1), library.group(2)));
        }
    }

    private static boolean isListed(String owner, String name) {
        switch (owner) {
            case "System": return name.equals("arraycopy");
            case "Arrays": return Set.of("copyOf", "copyOfRange", "fill").contains(name);
            default: return !name.endsWith("Exact") && !name.equals("random");
        }
    }
}
