import java.io.IOException;
import java.nio.file.Files;
import java.nio.file.Path;
import java.util.List;
import java.util.Set;
import java.util.TreeSet;
import java.util.regex.Matcher;
import java.util.regex.Pattern;
import java.lang.reflect.Constructor;
import java.lang.reflect.Field;
import java.lang.reflect.Method;
import java.lang.reflect.Modifier;

/** The rules of LANGUAGE.md that a look at the source and the compiled class can check, and the face of the class. */
public final class LanguageTest {
    private static final Path SOURCE = Path.of("src/main/java/NightShelter.java");
    private static final Set<String> LIBRARY = Set.of("System.arraycopy", "Arrays.fill", "Arrays.copyOf",
            "Arrays.copyOfRange", "Math.min", "Math.max", "Integer.bitCount");

    /* The rules are there from the constructor on; for the latest evening null means that there was none. */
    private static final Set<String> CHANGING = Set.of("State.rules", "State.latest");

    public static void main(String[] args) throws IOException {
        String code = withoutCommentsAndTexts(Files.readString(SOURCE));
        for (String word : List.of("throw", "throws", "try", "catch", "synchronized", "assert", "package", "Exception",
                "hashCode", "toString", "lambda", "var", "sealed", "Random", "Thread", "Object")) {
            Checks.same("'" + word + "' in the source", code.matches("(?s).*\\b" + word + "\\b.*"), false);
        }
        Checks.same("'->' in the source", code.contains("->"), false);
        Checks.same("'::' in the source", code.contains("::"), false);
        for (String line : code.split("\n")) {
            if (line.startsWith("import ")) {
                Checks.same(line, line.trim().equals("import java.util.Arrays;"), true);
            }
        }
        face();
        noNameTwice();
        libraryCalls(code);
        staticFields(NightShelter.class);
        for (Class<?> own : NightShelter.class.getDeclaredClasses()) {
            staticFields(own);
            fields(own);
        }
        shortMethods(Files.readString(SOURCE));
        Checks.close();
    }

    private static String withoutCommentsAndTexts(String source) {
        return source.replaceAll("(?s)/\\*.*?\\*/", " ").replaceAll("//[^\n]*", " ").replaceAll("\"[^\"\n]*\"", "\"\"");
    }

    private static void face() {
        Set<String> due = new TreeSet<>(List.of("feed(int,int,int,int,int)int", "end(int)int", "text()int",
                "fault(int)int", "room(int,int,boolean,boolean,int)int", "person(int,int,boolean,boolean)int",
                "ill(int,int)boolean", "bar(int,boolean)boolean", "pair(int,int,int)boolean", "helper(int,int)int",
                "evening(int,boolean)int", "points(int,boolean)int", "told(int,int)int", "called(int)boolean",
                "tell(int,int)int", "duty(int,int)int", "book(int,int)int", "count(int)int", "image(int)boolean",
                "again(int)boolean"));
        Set<String> found = new TreeSet<>();
        for (Method method : NightShelter.class.getDeclaredMethods()) {
            if (!Modifier.isPrivate(method.getModifiers())) {
                found.add(shape(method));
            }
        }
        Checks.same("the face is " + found + ": as due", found.equals(due), true);
        for (Field field : NightShelter.class.getDeclaredFields()) {
            boolean open = field.getName().equals("NONE");
            Checks.same("private " + field.getName(), Modifier.isPrivate(field.getModifiers()), !open);
        }
        Constructor<?>[] constructors = NightShelter.class.getDeclaredConstructors();
        Checks.same("constructors", constructors.length, 1);
        Checks.same("its parameters", constructors[0].getParameterCount(), 0);
        Checks.same("public final class", NightShelter.class.getModifiers(), Modifier.PUBLIC | Modifier.FINAL);
    }

    private static String shape(Method method) {
        StringBuilder shape = new StringBuilder(method.getName()).append('(');
        String comma = "";
        for (Class<?> type : method.getParameterTypes()) {
            shape.append(comma).append(type.getName());
            comma = ",";
        }
        return shape.append(')').append(method.getReturnType().getName()).toString();
    }

    private static void noNameTwice() {
        Set<String> open = new TreeSet<>();
        for (Method method : NightShelter.class.getDeclaredMethods()) {
            if (Modifier.isPublic(method.getModifiers())) {
                open.add(method.getName());
            }
        }
        Class<?>[] inside = NightShelter.class.getDeclaredClasses();
        Checks.same("at most twelve classes", inside.length < 12, true);
        for (Class<?> own : inside) {
            Checks.same(own + " is static", Modifier.isStatic(own.getModifiers()), true);
            for (Method method : own.getDeclaredMethods()) {
                Checks.same(own + "." + method.getName() + " bears a public name", open.contains(method.getName()), false);
                Checks.same(own + "." + method.getName() + " parameters", method.getParameterCount() <= 7, true);
            }
        }
    }

    /** Rule 4: only these functions of the library. */
    private static void libraryCalls(String code) {
        Matcher call = Pattern.compile("\\b(System|Arrays|Math|Integer|Long|String|List|ArrayList)\\.(\\w+)").matcher(code);
        while (call.find()) {
            Checks.same(call.group() + " is in the list", LIBRARY.contains(call.group()), true);
        }
    }

    /** Rule 5: static fields are constants. */
    private static void staticFields(Class<?> own) {
        for (Field field : own.getDeclaredFields()) {
            if (Modifier.isStatic(field.getModifiers())) {
                Checks.same(own + "." + field.getName() + " is final", Modifier.isFinal(field.getModifiers()), true);
                Checks.same(own + "." + field.getName() + " is an int", field.getType() == int.class, true);
            }
        }
    }

    /** Rules 7 and 11: some twenty fields, and no reference that could be null but those that are tested. */
    private static void fields(Class<?> own) {
        int fields = 0;
        for (Field field : own.getDeclaredFields()) {
            if (!Modifier.isStatic(field.getModifiers())) {
                fields++;
                String name = own.getSimpleName() + "." + field.getName();
                boolean safe = field.getType().isPrimitive() || Modifier.isFinal(field.getModifiers());
                Checks.same(name + " is final", safe || CHANGING.contains(name), true);
            }
        }
        Checks.same(own + " has few fields", fields <= 20, true);
    }

    /** Rule 11: methods of some sixty lines at most. */
    private static void shortMethods(String source) {
        int first = 0;
        String head = "";
        String[] lines = source.split("\n");
        for (int i = 0; i < lines.length; i++) {
            if (lines[i].matches(" {4}( {4})?[\\w\\[\\]. ]+\\(.*\\) \\{")) {
                first = i;
                head = lines[i].trim();
            } else if (lines[i].matches(" {4}( {4})?\\}")) {
                Checks.same(head + " has few lines", i - first < 60 || head.isEmpty(), true);
                head = "";
            }
        }
    }
}
