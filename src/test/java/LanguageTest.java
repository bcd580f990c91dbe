import java.lang.reflect.Constructor;
import java.lang.reflect.Field;
import java.lang.reflect.Method;
import java.lang.reflect.Modifier;
import java.nio.file.Files;
import java.nio.file.Path;
import java.util.List;
import java.util.Set;
import java.util.TreeSet;
import java.util.regex.Matcher;
import java.util.regex.Pattern;

/** What of ../shared/LANGUAGE.md can be seen by a plain look at the file and the compiled class. */
public final class LanguageTest {
    private static int wrong = 0;

    public static void main(String[] args) throws Exception {
        String source = Files.readString(Path.of("src/main/java/MotherBench.java"));
        String code = source.replaceAll("(?s)/\\*.*?\\*/", "").replaceAll("//[^\n]*", "");
        words(code);
        library(code);
        face();
        lengths(code);
        rowsAreMadeInConstructors(code);
        System.out.println(wrong == 0 ? "the language is kept to" : wrong + " rules are broken");
        if (wrong != 0) {
            System.exit(1);
        }
    }

    private static void refuse(boolean broken, String rule) {
        if (broken) {
            wrong++;
            System.out.println("broken: " + rule);
        }
    }

    private static void words(String code) {
        String[] banned = {"throw", "throws", "try", "catch", "finally", "synchronized", "assert", "native", "volatile",
            "transient", "package", "var", "Object", "Thread", "Random", "Exception", "hashCode", "toString", "protected"};
        for (String word : banned) {
            refuse(Pattern.compile("\\b" + word + "\\b").matcher(code).find(), "the word " + word);
        }
        refuse(code.contains("->"), "a lambda or an arrow");
        refuse(code.contains("::"), "a method reference");
        refuse(code.contains("Exact("), "a function whose name ends in Exact");
        refuse(Pattern.compile("static\\s*\\{").matcher(code).find(), "a static initialiser block");
        refuse(code.chars().anyMatch(c -> c > 126), "a sign above 126");
        refuse(Pattern.compile("while \\(true\\)|for \\(;;\\)").matcher(code).find(), "a loop without an end");
    }

    private static void library(String code) {
        Set<String> allowed = Set.of("Arrays.fill", "System.arraycopy", "Math.max", "Math.min", "Math.abs",
                "Integer.bitCount", "Integer.compare");
        Matcher m = Pattern.compile("\\b(Arrays|System|Math|Integer|Long|String|Character)\\.\\w+").matcher(code);
        while (m.find()) {
            refuse(!allowed.contains(m.group()), m.group());
        }
        m = Pattern.compile("import [^;]*;").matcher(code);
        while (m.find()) {
            refuse(!m.group().equals("import java.util.Arrays;"), m.group());
        }
    }

    private static void face() {
        Set<String> names = new TreeSet<>();
        for (Method m : MotherBench.class.getDeclaredMethods()) {
            refuse(!Modifier.isPublic(m.getModifiers()) && !Modifier.isPrivate(m.getModifiers()), "the member " + m);
            refuse(Modifier.isPublic(m.getModifiers()) && !names.add(m.getName()), "two of the name " + m);
            refuse(m.getParameterCount() > 7, "parameters of " + m);
        }
        refuse(names.size() != 79, "79 public methods, not " + names.size());
        for (Field f : MotherBench.class.getDeclaredFields()) {
            boolean none = f.getName().equals("NONE");
            refuse(none != Modifier.isPublic(f.getModifiers()) || !none && !Modifier.isPrivate(f.getModifiers()), "the member " + f);
            refuse(Modifier.isStatic(f.getModifiers()) && !Modifier.isFinal(f.getModifiers()), "static and not final: " + f);
        }
        for (Constructor<?> c : MotherBench.class.getDeclaredConstructors()) {
            refuse(!Modifier.isPublic(c.getModifiers()) || c.getParameterCount() != 0, "the constructor " + c);
        }
        refuse(!Modifier.isFinal(MotherBench.class.getModifiers()), "the class is final");
        refuse(MotherBench.class.getDeclaredClasses().length > 12, "at most some twelve classes");
        for (Class<?> inside : MotherBench.class.getDeclaredClasses()) {
            refuse(!Modifier.isStatic(inside.getModifiers()), "the class inside " + inside);
            int fields = 0;
            for (Field f : inside.getDeclaredFields()) {
                fields += Modifier.isStatic(f.getModifiers()) ? 0 : 1;
            }
            refuse(fields > 20, "at most some twenty fields: " + inside);
            for (Method m : inside.getDeclaredMethods()) {
                refuse(names.contains(m.getName()), "a name of the face: " + m);
                refuse(m.getParameterCount() > 7, "parameters of " + m);
            }
        }
    }

    /** By the indents of this file: a method's lines stand deeper than its first and its last. */
    private static void lengths(String code) {
        List<String> lines = code.lines().toList();
        for (int i = 0; i < lines.size(); i++) {
            String line = lines.get(i);
            if (!line.matches("\\s+[\\w\\[\\] ]+\\([^()]*\\) \\{") || line.matches("\\s+(if|for|while|switch|else).*")) {
                continue;
            }
            String close = line.replaceAll("\\S.*", "") + "}";
            int last = i;
            while (last < lines.size() && !lines.get(last).equals(close)) {
                last++;
            }
            refuse(last - i + 1 > 60, "a method of " + (last - i + 1) + " lines: " + line.strip());
        }
    }

    /** All calls of a run share one room: what is made is made with the object, never by a call. */
    private static void rowsAreMadeInConstructors(String code) {
        String kept = code;
        for (String name : new String[] {"public MotherBench", "Trial", "Chances"}) {
            kept = kept.replaceAll("(?s)\n( +)" + name + "\\([^)]*\\) \\{.*?\n\\1\\}", "\n");
        }
        for (String line : kept.lines().toList()) {
            boolean field = line.matches("        (private )?final [\\w\\[\\]]+ \\w+ = new .*");
            refuse(line.contains("new ") && !field, "made by a call: " + line.strip());
        }
    }
}
