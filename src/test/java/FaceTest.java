import java.lang.reflect.Constructor;
import java.lang.reflect.Field;
import java.lang.reflect.Method;
import java.lang.reflect.Modifier;
import java.nio.file.Files;
import java.nio.file.Path;
import java.util.ArrayList;
import java.util.HashSet;
import java.util.List;
import java.util.Set;
import java.util.TreeSet;

/** The public face is that of the document, and the source keeps to the plain marks of LANGUAGE.md. */
public final class FaceTest {
    private static final Path DOC = Path.of("../shared/DOC.md");
    private static final Path SOURCE = Path.of("src/main/java/Pirateindex.java");

    public static void main(String[] args) throws Exception {
        theFaceIsThatOfTheDocument();
        nothingElseCanBeSeen();
        theSourceKeepsToTheLanguage();
        Check.end("FaceTest");
    }

    private static void theFaceIsThatOfTheDocument() throws Exception {
        Set<String> want = new TreeSet<>();
        for (String line : Files.readAllLines(DOC)) {
            String text = line.trim();
            if (text.startsWith("public ") && text.endsWith(";")) {
                want.add(withoutNames(text.substring("public ".length(), text.length() - 1)));
            }
        }
        Set<String> got = new TreeSet<>();
        for (Constructor<?> made : Pirateindex.class.getConstructors()) {
            got.add("Pirateindex(" + types(made.getParameterTypes()) + ")" + thrown(made.getExceptionTypes()));
        }
        Set<String> publicNames = new HashSet<>();
        for (Method method : Pirateindex.class.getDeclaredMethods()) {
            if (Modifier.isPublic(method.getModifiers())) {
                publicNames.add(method.getName());
                got.add(method.getReturnType() + " " + method.getName() + "(" + types(method.getParameterTypes())
                        + ")" + thrown(method.getExceptionTypes()));
            }
        }
        Check.same("the face", String.join("\n", want), String.join("\n", got));
        Check.same("how many members the face has", "35", String.valueOf(got.size()));
        for (Method method : Pirateindex.class.getDeclaredMethods()) {
            if (!Modifier.isPublic(method.getModifiers())) {
                Check.same("a hidden method has a public name: " + method.getName(), "false",
                        String.valueOf(publicNames.contains(method.getName())));
            }
        }
    }

    private static String withoutNames(String signature) {
        int open = signature.indexOf('(');
        int close = signature.indexOf(')');
        List<String> types = new ArrayList<>();
        for (String parameter : signature.substring(open + 1, close).split(",")) {
            if (!parameter.isBlank()) {
                types.add(parameter.trim().split(" ")[0]);
            }
        }
        return signature.substring(0, open + 1) + String.join(", ", types) + signature.substring(close);
    }

    private static String types(Class<?>[] classes) {
        List<String> names = new ArrayList<>();
        for (Class<?> one : classes) {
            names.add(one.getSimpleName());
        }
        return String.join(", ", names);
    }

    private static String thrown(Class<?>[] classes) {
        return classes.length == 0 ? "" : " throws " + types(classes);
    }

    private static void nothingElseCanBeSeen() {
        Class<?> face = Pirateindex.class;
        Check.due("the class is final", true, () -> Modifier.isFinal(face.getModifiers()));
        Check.due("the class is public", true, () -> Modifier.isPublic(face.getModifiers()));
        for (Field field : face.getDeclaredFields()) {
            Check.due("private is " + field.getName(), true, () -> Modifier.isPrivate(field.getModifiers()));
            if (Modifier.isStatic(field.getModifiers())) {
                Check.due("final is " + field.getName(), true, () -> Modifier.isFinal(field.getModifiers()));
            }
        }
        for (Method method : face.getDeclaredMethods()) {
            boolean hidden = Modifier.isPublic(method.getModifiers()) || Modifier.isPrivate(method.getModifiers());
            Check.due("public or private is " + method.getName(), true, () -> hidden);
        }
        for (Class<?> inside : face.getDeclaredClasses()) {
            Check.due("static is " + inside.getName(), true, () -> Modifier.isStatic(inside.getModifiers()));
            Check.due("not public is " + inside.getName(), false, () -> Modifier.isPublic(inside.getModifiers()));
        }
    }

    private static void theSourceKeepsToTheLanguage() throws Exception {
        String source = Files.readString(SOURCE);
        String[] unwanted = {"package ", "catch", "try {", "finally", "->", "::", "Exact(", "synchronized", "assert",
            "static {", "Math.sqrt", "Float.", "Double.", "Object ", "@", "System.out", "System.nano", "Random",
            "Thread", "protected"};
        for (String mark : unwanted) {
            Check.same("the source has " + mark, "false", String.valueOf(source.contains(mark)));
        }
        Set<String> imports = new TreeSet<>();
        for (String line : source.split("\n")) {
            if (line.startsWith("import ")) {
                imports.add(line);
            }
        }
        Check.same("the imports", "[import java.util.ArrayList;, import java.util.Arrays;, "
                + "import java.util.NoSuchElementException;]", imports.toString());
    }
}
