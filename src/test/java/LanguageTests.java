import java.io.IOException;
import java.lang.reflect.Field;
import java.lang.reflect.Method;
import java.lang.reflect.Modifier;
import java.nio.file.Files;
import java.nio.file.Path;
import java.util.ArrayList;
import java.util.List;
import java.util.Set;
import java.util.TreeSet;
import java.util.regex.Matcher;
import java.util.regex.Pattern;

/** What can be seen of ../shared/LANGUAGE.md's rules from the source and the class: the face, words, sizes. */
public final class LanguageTests {
    private static final Path SOURCE = Path.of("src/main/java/NineMowers.java");
    private static final Path DOCUMENT = Path.of("../shared/DOC.md");

    public static void main(String[] args) throws IOException {
        String code = bare(Files.readString(SOURCE));
        face(Files.readString(DOCUMENT));
        words(code);
        sizes(code);
        Due.close("LanguageTests");
    }

    /** The code without comments and without what stands in quotes. */
    private static String bare(String source) {
        String quoted = "\"(?:\\\\.|[^\"\\\\])*\"|'(?:\\\\.|[^'\\\\])'";
        Matcher m = Pattern.compile("/\\*.*?\\*/|//[^\n]*|" + quoted, Pattern.DOTALL).matcher(source);
        return m.replaceAll(r -> r.group().startsWith("/") ? r.group().replaceAll("[^\n]", "") : "0");
    }

    private static void face(String document) {
        Set<String> due = new TreeSet<>();
        Matcher told = Pattern.compile("    public (int|long) (\\w+)\\(([^)]*)\\);").matcher(document);
        while (told.find()) {
            due.add(told.group(1) + " " + told.group(2) + "(" + told.group(3).replaceAll(" \\w+(,|$)", "$1") + ")");
        }
        Set<String> is = new TreeSet<>();
        Set<String> publicNames = new TreeSet<>();
        for (Method m : NineMowers.class.getDeclaredMethods()) {
            if (!Modifier.isPrivate(m.getModifiers())) {
                List<String> sorts = new ArrayList<>();
                for (Class<?> sort : m.getParameterTypes()) {
                    sorts.add(sort.getName());
                }
                is.add(m.getReturnType().getName() + " " + m.getName() + "(" + String.join(", ", sorts) + ")");
                publicNames.add(m.getName());
            }
        }
        Due.holds("the face is the document's: " + is + " for " + due, is.equals(due) && due.size() == 39);
        for (Method m : NineMowers.class.getDeclaredMethods()) {
            boolean hidden = Modifier.isPrivate(m.getModifiers());
            Due.holds("private " + m.getName(), !hidden || !publicNames.contains(m.getName()));
        }
        Set<String> constants = new TreeSet<>();
        for (Field f : NineMowers.class.getDeclaredFields()) {
            if (!Modifier.isPrivate(f.getModifiers())) {
                constants.add(f.getType().getName() + " " + f.getName());
            }
            Due.holds("static final " + f.getName(), !Modifier.isStatic(f.getModifiers())
                || Modifier.isFinal(f.getModifiers()));
        }
        Due.holds("the constants", constants.equals(Set.of("int NONE", "int BAD", "int STATE", "int FULL", "long NO")));
        for (Class<?> inside : NineMowers.class.getDeclaredClasses()) {
            Due.holds(inside + " is static", Modifier.isStatic(inside.getModifiers()));
        }
        Due.due("classes, twelve at most", Math.max(12, 1 + NineMowers.class.getDeclaredClasses().length), 12);
    }

    private static void words(String code) {
        String[] banned = {"throw", "throws", "try", "catch", "finally", "synchronized", "assert", "volatile",
            "transient", "native", "var", "yield", "Thread", "System\\.(?!arraycopy)", "Random", "Object", "Class",
            "hashCode", "toString", "equals", "\\w+Exact", "String\\.", "char\\[\\]", "protected"};
        for (String word : banned) {
            Due.holds("no " + word, !Pattern.compile("\\b" + word + "\\b").matcher(code).find());
        }
        for (String sign : new String[] {"->", "::", "@", "\"", "System.out", ".getClass", "<>"}) {
            Due.holds("no " + sign, !code.contains(sign));
        }
        Matcher imported = Pattern.compile("import ([^;]*);").matcher(code);
        while (imported.find()) {
            Due.holds("import " + imported.group(1), imported.group(1).equals("java.util.Arrays"));
        }
        Due.holds("no package", !code.contains("package "));
    }

    private static void sizes(String code) {
        String[] lines = code.split("\n");
        Pattern head = Pattern.compile("^( {4}| {8})(?:\\w+ )*[\\w\\[\\]]+ ?\\w+\\((.*)\\) \\{$");
        for (int i = 0; i < lines.length; i++) {
            Matcher m = head.matcher(lines[i]);
            if (m.find()) {
                int end = i;
                while (!lines[end].equals(m.group(1) + "}")) {
                    end++;
                }
                Due.holds(lines[i].trim() + " is short", end - i <= 60);
                Due.holds(lines[i].trim() + " takes few", m.group(2).split(",").length <= 7);
            }
        }
        fewFields(NineMowers.class);
        for (Class<?> inside : NineMowers.class.getDeclaredClasses()) {
            fewFields(inside);
        }
    }

    private static void fewFields(Class<?> one) {
        int fields = 0;
        for (Field f : one.getDeclaredFields()) {
            fields += Modifier.isStatic(f.getModifiers()) ? 0 : 1;
        }
        Due.holds(one + " has twenty fields at most", fields <= 20);
    }
}
