import java.lang.reflect.Constructor;
import java.lang.reflect.Field;
import java.lang.reflect.Method;
import java.lang.reflect.Modifier;
import java.nio.file.Files;
import java.nio.file.Path;
import java.util.ArrayList;
import java.util.List;
import java.util.Set;
import java.util.TreeSet;
import java.util.regex.Matcher;
import java.util.regex.Pattern;

/** Those rules of LANGUAGE.md that a look at the source and at the compiled class can tell. */
public final class LanguageTest {
    private static final Path SOURCE = Path.of("src/main/java/PuzzleChests.java");
    private static final Path DOCUMENT = Path.of("../shared/DOC.md");
    private static final List<String> LIBRARY = List.of("Arrays.fill", "System.arraycopy", "Math.min");
    private static int wrong;

    private static void check(boolean fine, String rule) {
        if (!fine) {
            wrong++;
            System.out.println("not kept: " + rule);
        }
    }

    private static String withoutComments(String text) {
        return text.replaceAll("(?s)/\\*.*?\\*/", "").replaceAll("//[^\n]*", "");
    }

    private static Set<String> faceOfDocument() throws Exception {
        String text = Files.readString(DOCUMENT);
        Matcher m = Pattern.compile("    public (int|long) (\\w+)\\(([^)]*)\\);").matcher(text);
        Set<String> face = new TreeSet<>();
        while (m.find()) {
            face.add(m.group(1) + " " + m.group(2) + "(" + m.group(3).replaceAll(" \\w+(,|$)", "$1").replace(" ", "") + ")");
        }
        return face;
    }

    private static Set<String> faceOfClass() {
        Set<String> face = new TreeSet<>();
        for (Method m : PuzzleChests.class.getDeclaredMethods()) {
            if (!Modifier.isPrivate(m.getModifiers())) {
                List<String> types = new ArrayList<>();
                for (Class<?> t : m.getParameterTypes()) {
                    types.add(t.getName());
                }
                face.add(m.getReturnType().getName() + " " + m.getName() + "(" + String.join(",", types) + ")");
                check(Modifier.isPublic(m.getModifiers()), "1: " + m.getName() + " is not public");
            }
        }
        return face;
    }

    private static void face() throws Exception {
        Set<String> due = faceOfDocument();
        Set<String> got = faceOfClass();
        check(due.size() == 51, "1: methods of the document: " + due.size());
        check(due.equals(got), "1: the face is " + got);
        check(Modifier.isFinal(PuzzleChests.class.getModifiers()), "1: the class is final");
        check(PuzzleChests.class.getDeclaredConstructors().length == 1, "1: one constructor");
        for (Constructor<?> c : PuzzleChests.class.getDeclaredConstructors()) {
            check(Modifier.isPublic(c.getModifiers()) && c.getParameterCount() == 0, "1: the constructor");
        }
        Set<String> constants = new TreeSet<>();
        for (Field f : PuzzleChests.class.getDeclaredFields()) {
            if (!Modifier.isPrivate(f.getModifiers())) {
                constants.add(f.getName());
            }
        }
        check(constants.equals(Set.of("NONE", "UNKNOWN", "OUTSIDE", "STATE", "FULL", "SPENT")), "1: " + constants);
    }

    private static void classesInside() {
        Set<String> names = new TreeSet<>();
        for (Method m : PuzzleChests.class.getDeclaredMethods()) {
            if (Modifier.isPublic(m.getModifiers())) {
                names.add(m.getName());
            }
        }
        Class<?>[] inside = PuzzleChests.class.getDeclaredClasses();
        check(inside.length < 12, "11: at most some twelve classes");
        for (Class<?> c : inside) {
            check(Modifier.isStatic(c.getModifiers()), "1: static " + c);
            for (Method m : c.getDeclaredMethods()) {
                check(!names.contains(m.getName()), "1: a name of the face again: " + m);
                check(m.getParameterCount() <= 7, "11: parameters of " + m);
            }
            fields(c);
        }
        for (Method m : PuzzleChests.class.getDeclaredMethods()) {
            check(Modifier.isPublic(m.getModifiers()) || !names.contains(m.getName()), "1: a name of the face again: " + m);
        }
        fields(PuzzleChests.class);
    }

    private static void fields(Class<?> c) {
        int own = 0;
        for (Field f : c.getDeclaredFields()) {
            if (Modifier.isStatic(f.getModifiers())) {
                check(Modifier.isFinal(f.getModifiers()), "5: " + f);
            } else {
                own++;
            }
        }
        check(own <= 20, "11: fields of " + c);
    }

    private static void words(String code) {
        String[] forbidden = {"throw", "throws", "try", "catch", "finally", "synchronized", "assert", "volatile",
            "native", "package", "var", "new Object", "hashCode", "equals", "toString", "protected", "Exact"};
        for (String word : forbidden) {
            check(!Pattern.compile("\\b" + word + "\\b").matcher(code).find(), "4, 6: " + word);
        }
        check(!code.contains("->") && !code.contains("::"), "2: no lambda, no method reference");
        check(!code.contains("static {"), "5: no static initialiser");
        check(!code.contains("\t"), "no tabs");
        Matcher imports = Pattern.compile("import ([\\w.]+);").matcher(code);
        while (imports.find()) {
            check(imports.group(1).equals("java.util.Arrays"), "4: " + imports.group(1));
        }
        Matcher calls = Pattern.compile("\\b(Arrays|System|Math|Integer|Long|String|List|Boolean)\\.(\\w+)").matcher(code);
        while (calls.find()) {
            check(LIBRARY.contains(calls.group()), "4: " + calls.group());
        }
    }

    /** A method's lines, from its head to the brace that stands as far in as its head. */
    private static void lengths(String text) {
        String[] lines = text.split("\n");
        for (int i = 0; i < lines.length; i++) {
            Matcher m = Pattern.compile("^( {4}| {8})\\w[^=;]*\\) \\{$").matcher(lines[i]);
            if (m.find()) {
                int end = i;
                while (end < lines.length && !lines[end].equals(m.group(1) + "}")) {
                    end++;
                }
                check(end - i < 60, "11: long method at line " + (i + 1));
            }
            check(lines[i].length() <= 120, "long line " + (i + 1));
        }
    }

    public static void main(String[] args) throws Exception {
        String text = Files.readString(SOURCE);
        face();
        classesInside();
        words(withoutComments(text));
        lengths(text);
        System.out.println(wrong == 0 ? "the language is kept to" : wrong + " rules are not kept");
        System.exit(wrong == 0 ? 0 : 1);
    }
}
