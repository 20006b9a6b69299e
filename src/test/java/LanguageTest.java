import java.io.IOException;
import java.lang.reflect.Field;
import java.lang.reflect.Method;
import java.lang.reflect.Modifier;
import java.nio.file.Files;
import java.nio.file.Path;
import java.util.HashSet;
import java.util.Set;
import java.util.TreeSet;
import java.util.regex.Matcher;
import java.util.regex.Pattern;

/** Promise 1's face, and those rules of LANGUAGE.md that can be read off the source. */
public final class LanguageTest {
    private static final Checks checks = new Checks("LanguageTest");
    private static final String FACE = "int trait(int,int,int);int character(int);int takes(int,int);"
        + "int body(int,int,int,int);int need(int,int,int);int guard(int,int,int);int own(int,int,int,int);"
        + "int op(int,int,int);int leave(int,int,int);int rename(int,int,int,int);int prefer(int,int,int);"
        + "int lineOf(int,int);int line(int,int);int chosen(int,int);int clash(int,int);int about(int,int,int);"
        + "int above(int,int,int);int guards(int,int,int);int isA(int,int);int play(int,int,long);long told(int);"
        + "int marks();long mark(int,int);long mood(int,int);int setMood(int,int,long);int count(int);long digest();";

    public static void main(String[] args) throws IOException {
        face();
        nestedClasses();
        source(Files.readString(Path.of("src/main/java/PuppetCast.java")));
        checks.end();
    }

    private static void holds(String what, boolean isSo) {
        checks.due(what, isSo ? 1 : 0, 1);
    }

    private static void face() {
        Set<String> due = new TreeSet<>(Set.of(FACE.split(";")));
        Set<String> found = new TreeSet<>();
        for (Method m : PuppetCast.class.getDeclaredMethods()) {
            if (Modifier.isPublic(m.getModifiers())) {
                StringBuilder types = new StringBuilder();
                for (Class<?> type : m.getParameterTypes()) {
                    types.append(types.length() == 0 ? "" : ",").append(type.getName());
                }
                found.add(m.getReturnType().getName() + " " + m.getName() + "(" + types + ")");
            } else {
                holds("private: " + m.getName(), Modifier.isPrivate(m.getModifiers()));
            }
        }
        holds("the methods of the face: " + found, found.equals(due));
        for (Field f : PuppetCast.class.getDeclaredFields()) {
            boolean isConstant = Set.of("NONE", "BAD", "NO", "FULL").contains(f.getName());
            holds("field " + f.getName(), isConstant ? Modifier.isPublic(f.getModifiers()) : Modifier.isPrivate(f.getModifiers()));
            holds("static is final: " + f.getName(), !Modifier.isStatic(f.getModifiers()) || Modifier.isFinal(f.getModifiers()));
        }
        holds("one public constructor", PuppetCast.class.getConstructors().length == 1);
        holds("final", Modifier.isFinal(PuppetCast.class.getModifiers()));
    }

    private static void nestedClasses() {
        Set<String> publicNames = new HashSet<>();
        for (String method : FACE.split(";")) {
            publicNames.add(method.substring(method.indexOf(' ') + 1, method.indexOf('(')));
        }
        Class<?>[] nested = PuppetCast.class.getDeclaredClasses();
        holds("some twelve classes", nested.length < 12);
        for (Class<?> c : nested) {
            holds("static: " + c, Modifier.isStatic(c.getModifiers()) && !Modifier.isPublic(c.getModifiers()));
            holds("some twenty fields: " + c, c.getDeclaredFields().length <= 20);
            for (Method m : c.getDeclaredMethods()) {
                holds("another name than a public one: " + m, !publicNames.contains(m.getName()));
                holds("seven parameters: " + m, m.getParameterCount() <= 7);
            }
            for (Field f : c.getDeclaredFields()) {
                holds("static is final: " + f, !Modifier.isStatic(f.getModifiers()) || Modifier.isFinal(f.getModifiers()));
            }
        }
    }

    private static void source(String text) {
        String code = text.replaceAll("(?s)/\\*.*?\\*/", " ").replaceAll("//[^\n]*", " ");
        String[] banned = {"throw", "try", "catch", "throws", "synchronized", "assert", "var", "yield", "record", "enum",
            "double", "float", "System", "Thread", "Random", "Object", "hashCode", "toString", "Exact", "while", "do",
            "package", "protected", "String"};
        for (String word : banned) {
            holds("without " + word, !Pattern.compile("\\b" + word + "\\b").matcher(code).find());
        }
        holds("without lambdas and references", !code.contains("->") && !code.contains("::"));
        Matcher imports = Pattern.compile("import\\s+([\\w.*]+)").matcher(code);
        while (imports.find()) {
            checks.due("import " + imports.group(1), imports.group(1).equals("java.util.Arrays") ? 1 : 0, 1);
        }
        holds("signs 1 to 127", text.chars().allMatch(sign -> sign >= 1 && sign <= 127));
        methodLengths(code.split("\n"));
    }

    private static void methodLengths(String[] lines) {
        for (int start = 0; start < lines.length; start++) {
            Matcher head = Pattern.compile("( {4}| {8})(?!.*\\bclass\\b)\\w.*\\) \\{").matcher(lines[start]);
            if (head.matches()) {
                int end = start;
                while (end < lines.length && !lines[end].equals(head.group(1) + "}")) {
                    end++;
                }
                holds("some sixty lines from line " + start, end - start <= 60);
            }
        }
    }
}
