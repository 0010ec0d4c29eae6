import java.lang.reflect.Field;
import java.lang.reflect.Method;
import java.lang.reflect.Modifier;
import java.nio.file.Files;
import java.nio.file.Path;
import java.util.ArrayList;
import java.util.List;

/** What can be seen of the language's rules from the lines (the file's path is the argument) and the classes. */
public final class LanguageTest {
    private static final Check check = new Check("LanguageTest");
    private static final List<String> WORDS = List.of("throw", "throws", "try", "catch", "synchronized", "assert",
        "package", "protected", "equals", "hashCode", "toString", "System.out", "Random", "Thread", "Exact",
        "Object", "super", "native", "transient", "volatile", "yield", "double", "float", "var");

    public static void main(String[] args) throws Exception {
        String source = Files.readString(Path.of(args[0])).replaceAll("/\\*(?s:.)*?\\*/|//.*", "");
        for (String word : WORDS) {
            boolean found = source.matches("(?s).*(?<![A-Za-z])" + word.replace(".", "\\.") + "(?![A-Za-z]).*");
            check.due("the word " + word, found ? 1 : 0, 0);
        }
        check.due("a lambda", source.contains("->") || source.contains("::") ? 1 : 0, 0);
        check.due("a text joined by +", source.matches("(?s).*(\" *\\+|\\+ *\").*") ? 1 : 0, 0);
        check.due("signs above 127", source.chars().filter(c -> c > 127).count(), 0);
        for (String line : source.split("\n")) {
            if (line.startsWith("import ")) {
                check.due(line, line.matches("import java\\.util\\.(Arrays|ArrayList|List|Iterator);") ? 1 : 0, 1);
            }
            if (line.contains(" class ") && !line.contains("class BeardsAreBonds")) {
                check.due(line, line.contains("private static") ? 1 : 0, 1);
            }
            if (line.matches(" *(public|private|static|final| )*[A-Za-z\\[\\]]+ [A-Za-z]+\\(.*\\) \\{")) {
                check.due("seven parameters at most: " + line, line.split(",").length <= 7 ? 1 : 0, 1);
            }
        }
        methodsAreShort(source.split("\n"));
        classesAreSmall();
        check.end();
    }

    /** A method ends with a brace as far in as its first line begins. */
    private static void methodsAreShort(String[] lines) {
        for (int i = 0; i < lines.length; i++) {
            if (!lines[i].matches(" +[A-Za-z].*\\) \\{") || lines[i].matches(" +(if|for|while|switch|else|do)\\b.*")) {
                continue;
            }
            String end = lines[i].replaceAll("[^ ].*", "") + "}";
            int size = 1;
            while (i + size < lines.length && !lines[i + size].equals(end)) {
                size++;
            }
            check.due("sixty lines at most: " + lines[i].trim(), size <= 60 ? 1 : 0, 1);
        }
    }

    private static void classesAreSmall() {
        List<Class<?>> classes = new ArrayList<>(List.of(BeardsAreBonds.class.getDeclaredClasses()));
        classes.add(BeardsAreBonds.class);
        check.due("twelve classes at most", classes.size() <= 12 ? 1 : 0, 1);
        for (Class<?> c : classes) {
            String name = c.getSimpleName();
            check.due("static: " + name, c == BeardsAreBonds.class || Modifier.isStatic(c.getModifiers()) ? 1 : 0, 1);
            check.due("no class inside " + name, c == BeardsAreBonds.class ? 0 : c.getDeclaredClasses().length, 0);
            int fields = 0;
            for (Field f : c.getDeclaredFields()) {
                boolean isStatic = Modifier.isStatic(f.getModifiers());
                boolean isConstant = Modifier.isFinal(f.getModifiers()) && f.getType().isPrimitive();
                fields += isStatic ? 0 : 1;
                check.due("a static field is a constant: " + f, !isStatic || isConstant ? 1 : 0, 1);
            }
            check.due("twenty fields at most: " + name, fields <= 20 ? 1 : 0, 1);
            for (Method m : c.getDeclaredMethods()) {
                check.due("seven parameters at most: " + m, m.getParameterCount() <= 7 ? 1 : 0, 1);
                check.due("not made by the compiler: " + m, m.isSynthetic() ? 1 : 0, 0);
            }
        }
    }
}
