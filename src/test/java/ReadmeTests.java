import java.io.IOException;
import java.lang.reflect.Method;
import java.lang.reflect.Modifier;
import java.nio.file.DirectoryStream;
import java.nio.file.Files;
import java.nio.file.Path;
import java.util.ArrayList;
import java.util.List;
import java.util.regex.Matcher;
import java.util.regex.Pattern;

/** README.md's example answers as it tells, and README.md names every call, constant and suite. */
public final class ReadmeTests {
    private static final Path SELF = Path.of("src/test/java/ReadmeTests.java");

    public static void main(String[] args) throws IOException {
        String readme = Files.readString(Path.of("README.md"));
        answersAsTold(example(readme));
        names(readme);
        Due.close("ReadmeTests");
    }

    private static String example(String readme) {
        Matcher block = Pattern.compile("```java\n(.*?)```", Pattern.DOTALL).matcher(readme);
        return block.find() ? block.group(1) : "";
    }

    private static void answersAsTold(String example) throws IOException {
        Due.holds("the example is the one that runs here",
            !example.isEmpty() && Files.readString(SELF).contains(example.indent(8)));
        List<Integer> told = new ArrayList<>();
        Matcher answer = Pattern.compile("// (-?\\d+): ").matcher(example);
        while (answer.find()) {
            told.add(Integer.parseInt(answer.group(1)));
        }
        int[] answers = played();
        Due.due("answers told", told.size(), answers.length);
        for (int i = 0; i < answers.length && i < told.size(); i++) {
            Due.due("the example's answer " + i, answers[i], told.get(i));
        }
    }

    private static int[] played() {
        NineMowers x = new NineMowers();
        int first = x.mower(1, 0);               // 0: a STEADY one with v 0, ahead in THE ROW
        int second = x.mower(2, 5);              // 1: a HASTY one with v 5, behind it
        for (char sign : "fast 3 e>5&p=0;gap 3;long 40".toCharArray()) {
            x.feed(sign);
        }
        int field = x.field();                   // 0: THE TEXT is a FIELD, and holds
        int ahead = x.of(first, 8);              // 9: the STRIDE of the first one, 3 more by the FIELD
        int behind = x.of(second, 8);            // 11: the STRIDE of the other one, 5 more as it is HASTY
        int held = x.minute();                   // 2: who was HELD, as bits: the other one
        int at = x.of(second, 2);                // 6: its AT: no farther than 9 less the GAP of 3
        int later = x.on(9, 0);                  // 147: all AT, together, 9 MINUTES on; changes nothing
        int when = x.done();                     // 4: both have mown the 40 in so many MINUTES more
        int bad = x.mower(0, 10);                // -2: BAD, as v is no more than 9; changes nothing
        return new int[] {first, second, field, ahead, behind, held, at, later, when, bad};
    }

    private static void names(String readme) throws IOException {
        for (Method m : NineMowers.class.getDeclaredMethods()) {
            if (Modifier.isPublic(m.getModifiers())) {
                Due.holds("README.md names " + m.getName(), readme.contains("`" + m.getName() + "`"));
            }
        }
        for (java.lang.reflect.Field f : NineMowers.class.getDeclaredFields()) {
            if (Modifier.isPublic(f.getModifiers())) {
                Due.holds("README.md names " + f.getName(), readme.contains("`" + f.getName() + "`"));
            }
        }
        try (DirectoryStream<Path> suites = Files.newDirectoryStream(Path.of("src/test/java"), "*Tests.java")) {
            for (Path suite : suites) {
                String name = suite.getFileName().toString().replace(".java", "");
                Due.holds("README.md names " + name, readme.contains("- `" + name + "`"));
            }
        }
    }
}
