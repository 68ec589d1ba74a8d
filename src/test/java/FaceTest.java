import java.lang.reflect.Constructor;
import java.lang.reflect.Field;
import java.lang.reflect.Member;
import java.lang.reflect.Method;
import java.lang.reflect.Modifier;
import java.nio.charset.StandardCharsets;
import java.nio.file.Files;
import java.nio.file.Path;
import java.util.ArrayList;
import java.util.Arrays;
import java.util.List;
import java.util.TreeSet;

/** The public face, word by word, and that nothing else of the class can be seen. */
public final class FaceTest {
    private static final String[] FACE = {
        "int feed(int, int, int, int, int)", "int fair(int)", "int fault()", "int count(int)", "int person(int, int)",
        "int alike(int, int)", "int liking(int, int)", "int hold(int)", "int dye(int, int)", "int darn(int, int)",
        "int unravel(int)", "boolean bind(int, int)", "int undo()", "int then(int, int)", "int when(int)",
        "int worn(int)", "int couples(int)", "int single(int)", "int closest()", "int lonely()", "int faithful()",
        "int most(int)", "long best()", "int rests(int)", "int mates(int)", "int way(int, int, int)", "int knit(int)",
        "int see(int, int, int)", "void forget()", "int dyed(int)", "int next(int)", "int basket(int, int)",
        "int game(int, int, int)", "int ring()", "int generations(int, int, int)", "int far(int, int)",
        "int circles()", "int lasts(int)", "int colour(int)", "int darner()", "void image()", "boolean restore()",
    };

    public static void main(String[] args) throws Exception {
        Check check = new Check();
        TreeSet<String> seen = new TreeSet<>();
        List<Member> members = new ArrayList<>();
        for (Method m : SockFair.class.getDeclaredMethods()) {
            if (Modifier.isPublic(m.getModifiers())) {
                List<String> types = new ArrayList<>();
                Arrays.stream(m.getParameterTypes()).forEach(t -> types.add(t.getSimpleName()));
                seen.add(m.getReturnType() + " " + m.getName() + "(" + String.join(", ", types) + ")");
            } else if (!m.isSynthetic()) {
                members.add(m);
            }
        }
        TreeSet<String> due = new TreeSet<>(Arrays.asList(FACE));
        due.stream().filter(m -> !seen.contains(m)).forEach(m -> System.out.println("lacks " + m));
        seen.stream().filter(m -> !due.contains(m)).forEach(m -> System.out.println("has also " + m));
        check.same("the methods are those of the document", seen.equals(due), true);

        for (Field f : SockFair.class.getDeclaredFields()) {
            if (!f.getName().equals("NONE")) {
                members.add(f);
            }
        }
        for (Member m : members) {
            check.same(m.getName() + " is private", Modifier.isPrivate(m.getModifiers()), true);
            check.same(m.getName() + " bears no name of the face",
                m instanceof Method && seen.stream().anyMatch(s -> s.contains(" " + m.getName() + "(")), false);
        }
        check.same("SockFair is public", Modifier.isPublic(SockFair.class.getModifiers()), true);
        check.same("SockFair is final", Modifier.isFinal(SockFair.class.getModifiers()), true);
        check.same("constructors", SockFair.class.getDeclaredConstructors().length, 1);
        for (Constructor<?> c : SockFair.class.getDeclaredConstructors()) {
            check.same("the constructor is public", Modifier.isPublic(c.getModifiers()), true);
            check.same("the constructor's parameters", c.getParameterCount(), 0);
        }
        Field none = SockFair.class.getDeclaredField("NONE");
        check.same("NONE is public static final",
            none.getModifiers() == (Modifier.PUBLIC | Modifier.STATIC | Modifier.FINAL), true);
        check.same("NONE", SockFair.NONE, -1);
        for (Class<?> inside : SockFair.class.getDeclaredClasses()) {
            check.same(inside.getName() + " is static", Modifier.isStatic(inside.getModifiers()), true);
            check.same(inside.getName() + " is not public", Modifier.isPublic(inside.getModifiers()), false);
        }
        check.same("few classes inside", SockFair.class.getDeclaredClasses().length <= 12, true);
        if (Check.hasDocument()) {
            asInTheDocument(check);
        }
        check.end("FaceTest");
    }

    /** What 'The public face' says, with the names of parameters and the exceptions, is what the source says. */
    private static void asInTheDocument(Check check) throws Exception {
        List<String> due = faceLines(Check.partOf(Check.document(), "## The public face"));
        List<String> got = faceLines(Files.readString(Path.of("src/main/java/SockFair.java"), StandardCharsets.UTF_8));
        check.same("lines of the face in the document", due.size(), FACE.length + 2);
        check.same("lines of the face in the source", got.size(), FACE.length + 2);
        for (String line : due) {
            check.same("the source has " + line, got.contains(line), true);
        }
    }

    private static List<String> faceLines(String text) {
        List<String> lines = new ArrayList<>();
        for (String line : text.split("\n")) {
            if (line.startsWith("    public ")) {
                lines.add(line.replaceFirst("( \\{|;)$", ""));
            }
        }
        return lines;
    }
}
