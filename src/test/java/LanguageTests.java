import java.io.IOException;
import java.lang.reflect.Field;
import java.lang.reflect.Method;
import java.lang.reflect.Modifier;
import java.nio.file.Files;
import java.nio.file.Path;
import java.util.ArrayList;
import java.util.List;
import java.util.Set;
import java.util.TreeSet;
import java.util.regex.Matcher;
import java.util.regex.Pattern;

/** What can be told of LANGUAGE.md's rules, and of the document's face, from the source and the class. */
public final class LanguageTests {
    private static final Path SOURCE = Path.of("src/main/java/SwapTrophies.java");
    private static final Path DOCUMENT = Path.of("../shared/DOC.md");
    private static int wrong = 0;

    public static void main(String[] args) throws IOException {
        String source = Files.readString(SOURCE);
        face();
        classes();
        words(source);
        methods(source);
        System.out.println(wrong == 0 ? "the language is kept to" : wrong + " rules are broken");
        if (wrong != 0) {
            System.exit(1);
        }
    }

    private static void rule(int number, boolean holds, String what) {
        if (!holds) {
            wrong++;
            System.out.println("rule " + number + ": " + what);
        }
    }

    private static void face() throws IOException {
        Set<String> due = new TreeSet<>();
        Matcher told = Pattern.compile("(?m)^    public (int|long) (\\w+)\\(([^)]*)\\);").matcher(Files.readString(DOCUMENT));
        while (told.find()) {
            due.add(told.group(1) + " " + told.group(2) + "(" + told.group(3).replaceAll(" \\w+(,|$)", "$1") + ")");
        }
        Set<String> has = new TreeSet<>();
        for (Method method : SwapTrophies.class.getDeclaredMethods()) {
            if (!Modifier.isPrivate(method.getModifiers())) {
                List<String> types = new ArrayList<>();
                for (Class<?> type : method.getParameterTypes()) {
                    types.add(type.getName());
                }
                has.add(method.getReturnType() + " " + method.getName() + "(" + String.join(", ", types) + ")");
                rule(1, Modifier.isPublic(method.getModifiers()), method + " is neither public nor private");
            }
        }
        rule(1, due.size() == 66 && due.equals(has), "the face is " + has + ", due is " + due);
        for (Field field : SwapTrophies.class.getDeclaredFields()) {
            boolean isNone = field.getName().equals("NONE");
            rule(1, isNone || Modifier.isPrivate(field.getModifiers()), field + " is not private");
        }
        rule(1, SwapTrophies.class.getDeclaredConstructors().length == 1, "one constructor");
        rule(1, Modifier.isFinal(SwapTrophies.class.getModifiers()), "the class is final");
    }

    private static void classes() {
        Set<String> open = new TreeSet<>();
        for (Method method : SwapTrophies.class.getDeclaredMethods()) {
            if (Modifier.isPublic(method.getModifiers())) {
                open.add(method.getName());
            }
        }
        List<Class<?>> all = new ArrayList<>(List.of(SwapTrophies.class.getDeclaredClasses()));
        rule(11, all.size() + 1 <= 12, "there are " + all.size() + " classes inside");
        for (Class<?> inside : all) {
            rule(2, Modifier.isStatic(inside.getModifiers()), inside + " is not static");
            for (Method method : inside.getDeclaredMethods()) {
                rule(1, !open.contains(method.getName()), method + " bears a public method's name");
            }
        }
        all.add(SwapTrophies.class);
        for (Class<?> one : all) {
            int fields = 0;
            for (Field field : one.getDeclaredFields()) {
                boolean isConstant = Modifier.isStatic(field.getModifiers());
                fields += isConstant ? 0 : 1;
                rule(5, !isConstant || Modifier.isFinal(field.getModifiers()), field + " is static and not final");
            }
            rule(11, fields <= 20, one + " has " + fields + " fields");
            for (Method method : one.getDeclaredMethods()) {
                rule(11, method.getParameterCount() <= 7, method + " takes too many parameters");
                boolean hasName = method.getName().startsWith("lambda");
                rule(2, !hasName, method + " is a lambda");
                boolean isHidden = Modifier.isPrivate(method.getModifiers()) && one == SwapTrophies.class;
                rule(1, !isHidden || !open.contains(method.getName()), method + " bears a public method's name");
            }
        }
    }

    private static void words(String source) {
        String code = source.replaceAll("(?s)/\\*.*?\\*/", " ").replaceAll("//[^\n]*", " ").replaceAll("\"[^\"]*\"", "\"\"");
        String[] barred = {"throw", "try", "catch", "synchronized", "assert", "throws", "hashCode", "toString", "package",
            "System\\.out", "Exact", "Random", "Thread", "->", "::", "protected", "double", "float", "Object"};
        for (String word : barred) {
            String pattern = word.matches("\\w+") && !word.equals("Exact") ? "\\b" + word + "\\b" : word;
            rule(6, !Pattern.compile(pattern).matcher(code).find(), "there is a " + word);
        }
        Matcher imports = Pattern.compile("(?m)^import (.*);").matcher(code);
        while (imports.find()) {
            rule(4, imports.group(1).equals("java.util.Arrays"), "import of " + imports.group(1));
        }
        Matcher calls = Pattern.compile("\\b(Arrays|System|Math|Integer|Long|String)\\.(\\w+)").matcher(code);
        Set<String> fine = Set.of("Arrays.fill", "System.arraycopy", "Math.abs", "Math.min", "Math.max", "Integer.bitCount");
        while (calls.find()) {
            rule(4, fine.contains(calls.group()), "use of " + calls.group());
        }
        for (int i = 0; i < source.length(); i++) {
            if (source.charAt(i) > 126) {
                rule(4, false, "a sign beyond 126 at " + i);
            }
        }
    }

    private static void methods(String source) {
        String[] lines = source.split("\n");
        int start = -1;
        for (int i = 0; i < lines.length; i++) {
            boolean opens = lines[i].matches("    (    )?(public|private|static|final|void|int|long|boolean|[A-Z]\\w*)[^=;]*\\(.*\\{");
            if (opens) {
                start = i;
            } else if (start >= 0 && lines[i].matches("    (    )?\\}") && lines[i].indexOf('}') == indent(lines[start])) {
                rule(11, i - start < 60, lines[start].trim() + " has " + (i - start) + " lines");
                start = -1;
            }
        }
    }

    private static int indent(String line) {
        return line.length() - line.stripLeading().length();
    }
}
