import java.io.IOException;
import java.lang.reflect.Constructor;
import java.lang.reflect.Field;
import java.lang.reflect.Method;
import java.lang.reflect.Modifier;
import java.nio.file.Files;
import java.util.ArrayList;
import java.util.List;
import java.util.Set;
import java.util.TreeSet;
import java.util.regex.Matcher;
import java.util.regex.Pattern;

/** The public face as the document shows it, and those rules of LANGUAGE.md that can be seen from outside. */
public final class FaceTest {
    private FaceTest() {
    }

    public static void main(String[] args) throws IOException {
        face(Files.readString(Due.DOCUMENT));
        names();
        fields();
        constructors();
        words(Files.readString(Due.PROGRAM));
        Due.end("FaceTest");
    }

    // Rule 1, and "The public face"
    private static void face(String document) {
        Set<String> want = new TreeSet<>();
        Matcher matcher = Pattern.compile("public (\\w+ \\w+\\([^)]*\\)[^;]*);").matcher(document);
        while (matcher.find()) {
            want.add(matcher.group(1).replaceAll("(int|char|boolean) \\w+([,)])", "$1$2"));
        }
        Set<String> got = new TreeSet<>();
        for (Method method : MapScales.class.getDeclaredMethods()) {
            if (Modifier.isPrivate(method.getModifiers())) {
                continue;
            }
            Due.is("public " + method, Modifier.PUBLIC, () -> method.getModifiers());
            got.add(method.getReturnType() + " " + method.getName() + names("(", method.getParameterTypes(), ")")
                    + (method.getExceptionTypes().length == 0 ? "" : names(" throws ", method.getExceptionTypes(), "")));
        }
        Due.is("the methods of the face", want, () -> got);
        Due.is("how many", 42, () -> got.size());
        Due.is("the class", Modifier.PUBLIC | Modifier.FINAL, () -> MapScales.class.getModifiers());
        Constructor<?>[] constructors = MapScales.class.getDeclaredConstructors();
        Due.is("constructors", 1, () -> constructors.length);
        Due.is("its parameters", 0, () -> constructors[0].getParameterCount());
    }

    private static String names(String ahead, Class<?>[] types, String behind) {
        List<String> names = new ArrayList<>();
        for (Class<?> type : types) {
            names.add(type.getSimpleName());
        }
        return ahead + String.join(", ", names) + behind;
    }

    // Rule 1
    private static void names() {
        Set<String> face = new TreeSet<>();
        for (Method method : MapScales.class.getDeclaredMethods()) {
            if (Modifier.isPublic(method.getModifiers())) {
                face.add(method.getName());
            }
        }
        for (Class<?> type : types()) {
            for (Method method : type.getDeclaredMethods()) {
                boolean isFace = type == MapScales.class && Modifier.isPublic(method.getModifiers());
                Due.is("a name of the face: " + method, isFace, () -> face.contains(method.getName()));
                Due.is("parameters of " + method, true, () -> method.getParameterCount() <= 7);
            }
        }
    }

    private static List<Class<?>> types() {
        List<Class<?>> types = new ArrayList<>(List.of(MapScales.class.getDeclaredClasses()));
        types.add(MapScales.class);
        return types;
    }

    // Rules 1, 2, 5 and 11
    private static void fields() {
        Due.is("classes", true, () -> types().size() <= 12);
        for (Class<?> type : types()) {
            int count = 0;
            for (Field field : type.getDeclaredFields()) {
                boolean isStatic = Modifier.isStatic(field.getModifiers());
                Due.is("static and not final: " + field, false,
                        () -> isStatic && !Modifier.isFinal(field.getModifiers()));
                Due.is("seen from outside: " + field, true,
                        () -> type != MapScales.class || Modifier.isPrivate(field.getModifiers()));
                count += isStatic ? 0 : 1;
            }
            int fields = count;
            Due.is("fields of " + type, true, () -> fields <= 20);
            Due.is("static " + type, true, () -> type == MapScales.class || Modifier.isStatic(type.getModifiers()));
        }
    }

    // Rule 12: what a constructor takes, the one that calls it hands out of its own object.
    private static void constructors() {
        for (Class<?> type : types()) {
            for (Constructor<?> constructor : type.getDeclaredConstructors()) {
                Due.is("what is handed to " + constructor, 0, () -> constructor.getParameterCount());
            }
        }
    }

    // Rules 2, 4, 6 and 10
    private static void words(String source) {
        String code = source.replaceAll("(?s)/\\*.*?\\*/", "").replaceAll("//[^\n]*", "")
                .replaceAll("\"[^\"]*\"", "\"\"");
        String[] forbidden = {"->", "::", "\\bfinally\\b", "\\bsynchronized\\b", "\\bassert\\b", "\\btry\\b", "\\bcatch\\b",
            "static \\{", "\\+ \"", "\" \\+", "\\bpackage\\b", "\\w+Exact\\(", "\\bSystem\\.(?!arraycopy\\()",
            "\\bArrays\\.(?!fill\\()", "\\bMath\\.(?!(?:abs|min|max)\\()", "\\bInteger\\.(?!compare\\()", "[^\\x00-\\x7f]"};
        for (String word : forbidden) {
            Due.is("there is " + word, false, () -> Pattern.compile(word).matcher(code).find());
        }
        Matcher imports = Pattern.compile("import ([^;]*);").matcher(code);
        while (imports.find()) {
            String name = imports.group(1);
            Due.is("import " + name, true,
                    () -> Set.of("java.util.Arrays", "java.util.NoSuchElementException").contains(name));
        }
    }
}
