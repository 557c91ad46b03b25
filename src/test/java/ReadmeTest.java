import java.io.IOException;
import java.lang.reflect.Method;
import java.lang.reflect.Modifier;
import java.nio.file.Files;
import java.nio.file.Path;
import java.util.ArrayList;
import java.util.List;

/** README.md: the answers beside the calls of its example, its table of calls, its table of tests. */
public final class ReadmeTest {
    private final List<String> example = new ArrayList<>();
    private final String readme;
    private int line = 1;

    private ReadmeTest(String readme) {
        this.readme = readme;
        int start = readme.indexOf("```java\n") + "```java\n".length();
        for (String text : readme.substring(start, readme.indexOf("\n```", start)).split("\n")) {
            example.add(text);
        }
    }

    public static void main(String[] args) throws IOException {
        ReadmeTest test = new ReadmeTest(Files.readString(Path.of("README.md")));
        test.answersOfTheExample();
        test.callsAreTold();
        test.testsAreTold();
        Check.finish();
    }

    /** The next line of the example has to be this call, and its comment has to begin with the answer. */
    private int told(String call, int answer) {
        String text = line < example.size() ? example.get(line) : "";
        line++;
        int comment = text.indexOf("//");
        Check.due("README, line " + line + " of the example", call,
            comment < 0 ? text : text.substring(0, comment).trim());
        String said = comment < 0 ? "" : text.substring(comment + 2).trim().split(":")[0];
        Check.due("README: " + call, said, Integer.toString(answer));
        return answer;
    }

    private void answersOfTheExample() {
        Check.due("README, the first line", "KayfabeRing ring = new KayfabeRing();", example.get(0));
        KayfabeRing ring = new KayfabeRing();
        int face = told("int face = ring.wrestler(50, 90, KayfabeRing.FACE);", ring.wrestler(50, 90, KayfabeRing.FACE));
        int heel = told("int heel = ring.wrestler(70, 20, KayfabeRing.HEEL);", ring.wrestler(70, 20, KayfabeRing.HEEL));
        told("int third = ring.wrestler(40, 55, KayfabeRing.FACE);", ring.wrestler(40, 55, KayfabeRing.FACE));
        int belt = told("int belt = ring.title();", ring.title());
        told("ring.promo(0, face, 2);", ring.promo(0, face, 2));
        told("ring.book(0, 0, face, heel, true, 20, belt);", ring.book(0, 0, face, heel, true, 20, belt));
        told("ring.book(1, 3, heel, face, true, 30, belt);", ring.book(1, 3, heel, face, true, 30, belt));
        told("ring.play();", ring.play());
        told("ring.champion(belt);", ring.champion(belt));
        told("ring.love(0, face);", ring.love(0, face));
        told("ring.pass();", ring.pass());
        told("ring.hurt(face, 2);", ring.hurt(face, 2));
        told("ring.mending();", ring.mending());
        told("ring.mend();", ring.mend());
        told("ring.play();", ring.play());
        told("ring.champion(belt);", ring.champion(belt));
        Check.due("README, lines of the example", example.size(), line);
    }

    private void callsAreTold() {
        for (Method method : KayfabeRing.class.getDeclaredMethods()) {
            if (Modifier.isPublic(method.getModifiers())) {
                int start = readme.indexOf("\n| `" + method.getName() + "(");
                String call = start < 0 ? "" : readme.substring(start + 4, readme.indexOf('`', start + 4));
                int parameters = call.endsWith("()") ? 0 : call.split(",").length;
                Check.due("README: " + method.getName(), "a row",
                    start < 0 ? "no row" : "a row");
                Check.due("README: parameters of " + method.getName(), method.getParameterCount(), parameters);
            }
        }
    }

    private void testsAreTold() throws IOException {
        try (var files = Files.list(Path.of("src/test/java"))) {
            for (Path file : files.toList()) {
                String name = file.getFileName().toString().replace(".java", "");
                if (name.endsWith("Test")) {
                    Check.due("README: " + name, 1, readme.contains("`" + name + "`") ? 1 : 0);
                }
            }
        }
    }
}
