import java.lang.reflect.Constructor;
import java.lang.reflect.Field;
import java.lang.reflect.Method;
import java.lang.reflect.Modifier;
import java.util.Arrays;
import java.util.TreeSet;

/** The public face: what the document shows, and nothing else that others could see. */
public final class FaceTest {
    private static final String[] FACE = {
        "public static final int MatroidDesk.NONE",
        "public MatroidDesk()",
        "public void MatroidDesk.feed(int,int,int,int,int) throws java.lang.IllegalStateException",
        "public int MatroidDesk.end(int) throws java.lang.IllegalArgumentException",
        "public int MatroidDesk.run()",
        "public int MatroidDesk.place()",
        "public int MatroidDesk.why()",
        "public int MatroidDesk.printed()",
        "public int MatroidDesk.out(int)",
        "public int MatroidDesk.elements(int)",
        "public int MatroidDesk.field(int)",
        "public int MatroidDesk.rank(int,int)",
        "public int MatroidDesk.count(int,int)",
        "public int MatroidDesk.member(int,int,int)",
        "public long MatroidDesk.tutte(int,int,int)",
        "public int MatroidDesk.weight(int,int)",
        "public int MatroidDesk.best(int)",
        "public int MatroidDesk.common(int,int)",
        "public int MatroidDesk.cover(int,int)",
        "public int MatroidDesk.sign(int,int)",
        "public int MatroidDesk.below(int,int)",
        "public int MatroidDesk.contracted(int,int)",
        "public int MatroidDesk.deleted(int,int)",
        "public int MatroidDesk.image(int,int,int)"};

    public static void main(String[] args) {
        TreeSet<String> seen = new TreeSet<>();
        for (Field field : MatroidDesk.class.getDeclaredFields()) {
            keep(seen, field.getModifiers(), field.isSynthetic(), field.toString());
        }
        for (Constructor<?> constructor : MatroidDesk.class.getDeclaredConstructors()) {
            keep(seen, constructor.getModifiers(), constructor.isSynthetic(), constructor.toString());
        }
        for (Method method : MatroidDesk.class.getDeclaredMethods()) {
            keep(seen, method.getModifiers(), method.isSynthetic(), method.toString());
        }
        TreeSet<String> due = new TreeSet<>(Arrays.asList(FACE));
        boolean closed = Modifier.isFinal(MatroidDesk.class.getModifiers()) && Modifier.isPublic(MatroidDesk.class.getModifiers());
        if (!seen.equals(due) || !closed || MatroidDesk.NONE != -1) {
            System.out.println("the face is " + seen + ", due is " + due);
            System.exit(1);
        }
    }

    private static void keep(TreeSet<String> seen, int modifiers, boolean synthetic, String member) {
        if (!Modifier.isPrivate(modifiers) && !synthetic) {
            seen.add(member);
        }
    }
}
