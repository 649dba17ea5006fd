import java.io.IOException;
import java.lang.reflect.Method;
import java.lang.reflect.Modifier;
import java.nio.file.Files;
import java.nio.file.Path;

/** README.md: its script is done and prints what stands there, and every call of the face is told of. */
public final class ReadmeTest {
    private static final String FENCE = "```";

    public static void main(String[] args) throws IOException {
        String readme = Files.readString(Path.of("README.md"));
        Checks.says(4, "Answers how many statements were done, and what they printed is the product");
        Desk desk = new Desk();
        Checks.due("run of README.md's script", desk.run(block(readme, "script")), 12);
        Checks.due("README.md's script", desk.product(), block(readme, "printed"));
        for (Method method : MatroidDesk.class.getDeclaredMethods()) {
            if (Modifier.isPublic(method.getModifiers())) {
                String name = method.getName();
                boolean told = readme.contains("`" + name + "(") || readme.contains("`" + name + "`");
                Checks.due("README.md tells of " + name, told ? 1 : 0, 1);
            }
        }
        Checks.finish();
    }

    private static String block(String readme, String kind) {
        String opening = FENCE + kind + "\n";
        int from = readme.indexOf(opening) + opening.length();
        return readme.substring(from, readme.indexOf(FENCE, from));
    }
}
