import java.io.IOException;
import java.lang.reflect.Constructor;
import java.lang.reflect.Field;
import java.lang.reflect.Method;
import java.lang.reflect.Modifier;
import java.nio.file.Files;
import java.nio.file.Path;
import java.util.Arrays;
import java.util.Set;
import java.util.TreeSet;
import java.util.regex.Matcher;
import java.util.regex.Pattern;

/** The document's face, and those rules of LANGUAGE.md that can be seen from the class or its text. */
public final class LanguageTest {
    private static final Set<String> METHODS = new TreeSet<>(Arrays.asList("clerk(int)", "ask(int,int)", "forget(int)",
            "giveBack(int)", "makeVoid(int)", "close()", "set(int,int)", "numberOf(int,int)", "clerkOf(int,int)",
            "holesAt(int,int)", "freeAt(int,int)", "turnAt(int)", "among(int,int,int)", "count(int)", "next(int)",
            "cost(int,int)", "worst()", "undo()", "type(int)", "clearText()", "fault(int)", "play()"));
    private static final Set<String> CONSTANTS = new TreeSet<>(Arrays.asList("INVALID_ARGUMENT", "NOT_POSSIBLE",
            "LIMIT_REACHED", "NOT_FOUND"));
    private static final String[] FORBIDDEN = {"\\b(throw|throws|try|catch|finally|synchronized|assert|import|package)\\b",
        "->", "::", "\\bnew\\s+\\w+\\s*\\(\\s*\\)\\s*\\{", "\\bstatic\\s*\\{", "\"\\s*\\+", "\\+\\s*\"", "\\bfloat\\b",
        "\\bthis\\s*;", "\\bSystem\\.(?!arraycopy)", "\\b(equals|hashCode|toString)\\b", "\\w+Exact\\b", "\\[\\]\\[\\]"};

    public static void main(String[] args) throws IOException {
        constants();
        face();
        classesInside();
        text();
        methodLengths();
        Rows.end();
    }

    private static void constants() {
        Rows.due("INVALID_ARGUMENT is -1", BlockClerks.INVALID_ARGUMENT == -1);
        Rows.due("NOT_POSSIBLE is -2", BlockClerks.NOT_POSSIBLE == -2);
        Rows.due("LIMIT_REACHED is -3", BlockClerks.LIMIT_REACHED == -3);
        Rows.due("NOT_FOUND is -4", BlockClerks.NOT_FOUND == -4);
    }

    private static void face() {
        Set<String> methods = new TreeSet<>();
        for (Method method : BlockClerks.class.getDeclaredMethods()) {
            String name = method.getName() + "(" + String.join(",",
                    Arrays.stream(method.getParameterTypes()).map(Class::getName).toList()) + ")";
            if (!Modifier.isPrivate(method.getModifiers())) {
                Rows.due(name + " is public, of the object, and returns an int", method.getReturnType() == int.class
                        && Modifier.isPublic(method.getModifiers()) && !Modifier.isStatic(method.getModifiers()));
                methods.add(name);
            }
        }
        Rows.due("the public methods are the document's: " + methods, methods.equals(METHODS));
        Set<String> fields = new TreeSet<>();
        for (Field field : BlockClerks.class.getDeclaredFields()) {
            if (!Modifier.isPrivate(field.getModifiers())) {
                fields.add(field.getName());
            }
        }
        Rows.due("the public fields are the document's: " + fields, fields.equals(CONSTANTS));
        Constructor<?>[] constructors = BlockClerks.class.getDeclaredConstructors();
        Rows.due("one public constructor without parameters", constructors.length == 1
                && Modifier.isPublic(constructors[0].getModifiers()) && constructors[0].getParameterCount() == 0);
        Rows.due("public and final", Modifier.isFinal(BlockClerks.class.getModifiers())
                && Modifier.isPublic(BlockClerks.class.getModifiers()));
    }

    private static void classesInside() {
        Set<String> publicNames = new TreeSet<>();
        METHODS.forEach(name -> publicNames.add(name.substring(0, name.indexOf('('))));
        checkNames(BlockClerks.class, publicNames, true);
        Class<?>[] inside = BlockClerks.class.getDeclaredClasses();
        Rows.due("at most twelve classes", inside.length < 12);
        for (Class<?> one : inside) {
            int how = one.getModifiers();
            Rows.due(one + " is static and not public", Modifier.isStatic(how) && !Modifier.isPublic(how)
                    && !Modifier.isProtected(how));
            checkNames(one, publicNames, false);
        }
    }

    private static void checkNames(Class<?> one, Set<String> publicNames, boolean outer) {
        int fields = 0;
        for (Field field : one.getDeclaredFields()) {
            fields += Modifier.isStatic(field.getModifiers()) ? 0 : 1;
            Rows.due(field + " is final if it is static", !Modifier.isStatic(field.getModifiers())
                    || Modifier.isFinal(field.getModifiers()));
        }
        Rows.due(one + " has at most twenty fields", fields <= 20);
        for (Method method : one.getDeclaredMethods()) {
            Rows.due(method + " bears no name of a public one", outer && Modifier.isPublic(method.getModifiers())
                    || !publicNames.contains(method.getName()));
            Rows.due(method + " has at most seven parameters", method.getParameterCount() <= 7);
        }
    }

    private static void text() throws IOException {
        String code = withoutComments(Files.readString(Path.of("src/main/java/BlockClerks.java")));
        for (String forbidden : FORBIDDEN) {
            Matcher matcher = Pattern.compile(forbidden).matcher(code);
            if (matcher.find()) {
                Rows.due("nothing forbidden: " + matcher.group(), false);
            }
        }
        Rows.due("only signs 1 to 127", code.chars().allMatch(sign -> sign >= 1 && sign <= 127));
    }

    private static void methodLengths() throws IOException {
        int length = 0;
        for (String line : Files.readAllLines(Path.of("src/main/java/BlockClerks.java"))) {
            length = line.matches(" {4}( {4})?\\w.*\\) \\{") ? 0 : length + 1;
            Rows.due("a method of at most sixty lines, up to: " + line, length <= 60
                    || !line.matches(" {4}( {4})?\\}"));
        }
    }

    private static String withoutComments(String code) {
        return code.replaceAll("(?s)/\\*.*?\\*/", "").replaceAll("//[^\n]*", "");
    }
}
