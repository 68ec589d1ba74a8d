import java.io.File;
import java.io.IOException;
import java.lang.reflect.InvocationTargetException;
import java.lang.reflect.Method;
import java.lang.reflect.Modifier;
import java.net.URL;
import java.net.URLClassLoader;
import java.nio.charset.StandardCharsets;
import java.nio.file.Files;
import java.nio.file.Path;
import java.util.ArrayList;
import java.util.Arrays;
import java.util.List;
import java.util.TreeSet;
import java.util.regex.Matcher;
import java.util.regex.Pattern;
import javax.tools.JavaCompiler;
import javax.tools.ToolProvider;

/**
 * What README.md shows of the class's use: its lines become one program, which must compile and answer what stands
 * behind each line's //.
 */
public final class ReadmeTest {
    private static final Check CHECK = new Check();
    private static final Pattern ANSWERED = Pattern.compile("(?:int|long|boolean) (\\w+) = .*; *// (-?\\w+)(?:: .*)?");
    private static final Pattern THROWN = Pattern.compile("(.*; *)// throws (\\w+)(?:: .*)?");
    private static final Pattern FED = Pattern.compile("fair\\.feed\\((0x.*)\\); *// \"(.*)\"");
    private static final String NAME = "ReadmeUse";

    public static void main(String[] args) throws Exception {
        namesEveryCall();
        showsWhatIsFed();
        answersAsItSays();
        CHECK.end("ReadmeTest");
    }

    private static void namesEveryCall() {
        TreeSet<String> named = new TreeSet<>();
        int many = 0;
        for (String cell : Readme.column("calls")) {
            for (String call : cell.split(", ")) {
                named.add(call.replace("`", ""));
                many++;
            }
        }
        TreeSet<String> face = new TreeSet<>();
        for (Method m : SockFair.class.getDeclaredMethods()) {
            if (Modifier.isPublic(m.getModifiers())) {
                face.add(m.getName());
            }
        }
        CHECK.same("README names " + named + ", the face is " + face, named.equals(face), true);
        CHECK.same("calls that README names, each once", many, face.size());
    }

    private static void showsWhatIsFed() {
        int fed = 0;
        for (String line : Readme.shown("java")) {
            Matcher feed = FED.matcher(line);
            if (feed.matches()) {
                fed++;
                StringBuilder bytes = new StringBuilder();
                for (String number : feed.group(1).split(", ")) {
                    int n = Integer.decode(number);
                    for (int shift = 24; shift >= 0; shift -= 8) {
                        bytes.append((char) (n >> shift & 255));
                    }
                }
                CHECK.same(line + " is " + bytes, bytes.toString().equals(feed.group(2)), true);
            }
        }
        CHECK.same("README shows bytes that are fed", fed > 0, true);
    }

    private static void answersAsItSays() throws Exception {
        List<String> due = new ArrayList<>();
        List<String> shown = new ArrayList<>();
        StringBuilder program = new StringBuilder();
        program.append("import java.util.NoSuchElementException;\npublic final class ").append(NAME)
            .append(" {\npublic static void use(java.util.List<String> answers) {\n");
        for (String line : Readme.shown("java")) {
            Matcher answered = ANSWERED.matcher(line);
            Matcher thrown = THROWN.matcher(line);
            if (thrown.matches()) {
                program.append("try { ").append(thrown.group(1)).append("answers.add(\"answers\"); } catch (")
                    .append(thrown.group(2)).append(" e) { answers.add(e.getClass().getSimpleName()); }\n");
                due.add(thrown.group(2));
                shown.add(line);
            } else {
                program.append(line).append('\n');
            }
            if (answered.matches()) {
                program.append("answers.add(String.valueOf(").append(answered.group(1)).append("));\n");
                due.add(answered.group(2));
                shown.add(line);
            }
            CHECK.same(line + " has a comment that is read",
                !line.contains("//") || thrown.matches() || answered.matches() || FED.matcher(line).matches(), true);
        }
        program.append("}\n}\n");
        compare(shown, due, answers(program.toString()));
    }

    private static void compare(List<String> shown, List<String> due, List<String> got) {
        CHECK.same("README shows answers", !due.isEmpty(), true);
        CHECK.same("how many answers came", got.size(), due.size());
        for (int i = 0; i < due.size() && i < got.size(); i++) {
            CHECK.same("'" + shown.get(i) + "' answered " + got.get(i), got.get(i).equals(due.get(i)), true);
        }
    }

    private static List<String> answers(String program) throws Exception {
        List<String> answers = new ArrayList<>();
        Path folder = Files.createTempDirectory("readme");
        try {
            boolean compiles = compile(folder, program);
            CHECK.same("what README shows compiles", compiles, true);
            if (compiles) {
                run(folder, answers);
            }
        } finally {
            remove(folder);
        }
        return answers;
    }

    private static boolean compile(Path folder, String program) throws IOException {
        Path source = folder.resolve(NAME + ".java");
        Files.write(source, program.getBytes(StandardCharsets.UTF_8));
        JavaCompiler compiler = ToolProvider.getSystemJavaCompiler();
        return compiler.run(null, null, null, "-Xlint:all", "-Werror", "-proc:none",
            "-cp", System.getProperty("java.class.path"), "-d", folder.toString(), source.toString()) == 0;
    }

    private static void run(Path folder, List<String> answers) throws Exception {
        try (URLClassLoader loader = new URLClassLoader(new URL[] {folder.toUri().toURL()})) {
            loader.loadClass(NAME).getMethod("use", List.class).invoke(null, answers);
        } catch (InvocationTargetException e) {
            CHECK.same("what README shows threw " + e.getCause(), true, false);
        }
    }

    private static void remove(Path folder) throws IOException {
        File[] files = folder.toFile().listFiles();
        for (File file : files == null ? List.<File>of() : Arrays.asList(files)) {
            Files.delete(file.toPath());
        }
        Files.delete(folder);
    }
}
