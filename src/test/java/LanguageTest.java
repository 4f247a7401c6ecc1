import java.io.IOException;
import java.nio.file.Files;
import java.nio.file.Path;
import java.util.List;
import java.util.Set;
import java.util.TreeSet;
import java.lang.reflect.Constructor;
import java.lang.reflect.Field;
import java.lang.reflect.Method;
import java.lang.reflect.Modifier;

/** The rules of LANGUAGE.md that a look at the source and the compiled class can check, and the face of the class. */
public final class LanguageTest {
    private static final Path SOURCE = Path.of("src/main/java/NightShelter.java");

    public static void main(String[] args) throws IOException {
        String code = withoutCommentsAndTexts(Files.readString(SOURCE));
        for (String word : List.of("throw", "throws", "try", "catch", "synchronized", "assert", "package", "Exception",
                "hashCode", "toString", "lambda", "var", "sealed", "Random", "Thread", "Object")) {
            Checks.same("'" + word + "' in the source", code.matches("(?s).*\\b" + word + "\\b.*"), false);
        }
        Checks.same("'->' in the source", code.contains("->"), false);
        Checks.same("'::' in the source", code.contains("::"), false);
        for (String line : code.split("\n")) {
            if (line.startsWith("import ")) {
                Checks.same(line, line.trim().equals("import java.util.Arrays;"), true);
            }
        }
        face();
        noNameTwice();
        Checks.close();
    }

    private static String withoutCommentsAndTexts(String source) {
        return source.replaceAll("(?s)/\\*.*?\\*/", " ").replaceAll("//[^\n]*", " ").replaceAll("\"[^\"\n]*\"", "\"\"");
    }

    private static void face() {
        Set<String> due = new TreeSet<>(List.of("feed(int,int,int,int,int)int", "end(int)int", "text()int",
                "fault(int)int", "room(int,int,boolean,boolean,int)int", "person(int,int,boolean,boolean)int",
                "ill(int,int)boolean", "bar(int,boolean)boolean", "pair(int,int,int)boolean", "helper(int,int)int",
                "evening(int,boolean)int", "points(int,boolean)int", "told(int,int)int", "called(int)boolean",
                "tell(int,int)int", "duty(int,int)int", "book(int,int)int", "count(int)int", "image(int)boolean",
                "again(int)boolean"));
        Set<String> found = new TreeSet<>();
        for (Method method : NightShelter.class.getDeclaredMethods()) {
            if (!Modifier.isPrivate(method.getModifiers())) {
                found.add(shape(method));
            }
        }
        Checks.same("the face is " + found + ": as due", found.equals(due), true);
        for (Field field : NightShelter.class.getDeclaredFields()) {
            boolean open = field.getName().equals("NONE");
            Checks.same("private " + field.getName(), Modifier.isPrivate(field.getModifiers()), !open);
        }
        Constructor<?>[] constructors = NightShelter.class.getDeclaredConstructors();
        Checks.same("constructors", constructors.length, 1);
        Checks.same("its parameters", constructors[0].getParameterCount(), 0);
        Checks.same("public final class", NightShelter.class.getModifiers(), Modifier.PUBLIC | Modifier.FINAL);
    }

    private static String shape(Method method) {
        StringBuilder shape = new StringBuilder(method.getName()).append('(');
        String comma = "";
        for (Class<?> type : method.getParameterTypes()) {
            shape.append(comma).append(type.getName());
            comma = ",";
        }
        return shape.append(')').append(method.getReturnType().getName()).toString();
    }

    private static void noNameTwice() {
        Set<String> open = new TreeSet<>();
        for (Method method : NightShelter.class.getDeclaredMethods()) {
            if (Modifier.isPublic(method.getModifiers())) {
                open.add(method.getName());
            }
        }
        Class<?>[] inside = NightShelter.class.getDeclaredClasses();
        Checks.same("at most twelve classes", inside.length < 12, true);
        for (Class<?> own : inside) {
            Checks.same(own + " is static", Modifier.isStatic(own.getModifiers()), true);
            for (Method method : own.getDeclaredMethods()) {
                Checks.same(own + "." + method.getName() + " bears a public name", open.contains(method.getName()), false);
                Checks.same(own + "." + method.getName() + " parameters", method.getParameterCount() <= 7, true);
            }
        }
    }
}
