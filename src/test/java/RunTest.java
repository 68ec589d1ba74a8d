import java.io.File;
import java.io.IOException;
import java.nio.charset.StandardCharsets;
import java.nio.file.Files;
import java.nio.file.Path;
import java.util.ArrayList;
import java.util.Arrays;
import java.util.List;
import java.util.TreeSet;
import java.util.concurrent.TimeUnit;
import java.util.stream.Stream;

/**
 * How the tests are run: .ci/run is called with a javac and a java that only write down how they are called (so it
 * doesn't come back here), and must call them as README.md says, for every test there is; where one of these fails,
 * it must fail.
 */
public final class RunTest {
    private static final Check CHECK = new Check();
    private static final String SCRIPT = ".ci/run";
    private static final int SECONDS = 120;

    // Fails when a word with which it is called is the failing one, or ends in a slash and that one.
    private static final String STAND_IN = "#!/bin/bash\n"
        + "[ \"$PWD\" = \"$RUN_TEST_ROOT\" ] || echo \"not in the project's folder: $PWD\" >> \"$RUN_TEST_NOTED\"\n"
        + "echo \"${0##*/} $*\" >> \"$RUN_TEST_NOTED\"\n"
        + "case \"$1\" in -Xlint*) first=own;; *) first=$1;; esac\n"
        + "for word in \"${0##*/} $first\" \"$@\"; do\n"
        + "    [ \"${word##*/}\" != \"$RUN_TEST_FAILING\" ] || exit 1\n"
        + "done\n";

    private final Path folder;
    private final Path noted;
    private final List<String> own = names("src/test/java", "Test.java");
    private final List<String> shared = names("../shared/tests", ".java");

    private RunTest(Path folder) throws IOException {
        this.folder = folder;
        noted = folder.resolve("noted");
        for (String name : List.of("javac", "java")) {
            Path file = folder.resolve(name);
            Files.write(file, STAND_IN.getBytes(StandardCharsets.UTF_8));
            CHECK.same(name + " can be called", file.toFile().setExecutable(true), true);
        }
    }

    public static void main(String[] args) throws Exception {
        Path folder = Files.createTempDirectory("run");
        try {
            RunTest test = new RunTest(folder);
            test.tellsOfEveryTest();
            test.runsWhatReadmeSays();
            test.failsWhereOneFails();
        } finally {
            remove(folder);
        }
        CHECK.end("RunTest");
    }

    /** What stands in a folder with this end, without .java. */
    private static List<String> names(String folder, String end) {
        List<String> names = new ArrayList<>();
        String[] files = new File(folder).list();
        TreeSet<String> sorted = new TreeSet<>(Arrays.asList(files == null ? new String[0] : files));
        for (String file : sorted) {
            if (file.endsWith(end)) {
                names.add(file.substring(0, file.length() - ".java".length()));
            }
        }
        return names;
    }

    private void tellsOfEveryTest() {
        CHECK.same(SCRIPT + " is executable", new File(SCRIPT).canExecute(), true);
        CHECK.same("there are own tests", !own.isEmpty(), true);
        CHECK.same("there are shared tests", !shared.isEmpty(), true);
        List<String> told = Readme.column("test");
        CHECK.same("README tells of " + told + ", there are " + own, new TreeSet<>(told).equals(new TreeSet<>(own)), true);
        CHECK.same("tests that README tells of, each once", told.size(), own.size());
    }

    private void runsWhatReadmeSays() throws Exception {
        List<String> told = new ArrayList<>(Readme.shown("sh"));
        CHECK.same("README says first " + SCRIPT, !told.isEmpty() && told.get(0).equals(SCRIPT), true);
        CHECK.same("commands in README", told.size(), 5);
        if (told.size() != 5) {
            return;
        }
        CHECK.same(SCRIPT + " passes where nothing fails", run("nothing"), true);
        TreeSet<String> due = new TreeSet<>();
        due.add(told.get(1).replace("src/test/java/*.java", sources()));
        own.forEach(name -> due.add(told.get(2).replace("NAME", name)));
        shared.forEach(name -> due.add(told.get(3).replace("NAME", name)));
        shared.forEach(name -> due.add(told.get(4).replace("NAME", name)));
        TreeSet<String> got = new TreeSet<>();
        List<String> commands = Files.readAllLines(noted, StandardCharsets.UTF_8);
        commands.forEach(command -> got.add(withoutFolder(command)));
        CHECK.same("how often something is called", commands.size(), 1 + own.size() + 2 * shared.size());
        due.stream().filter(c -> !got.contains(c)).forEach(c -> CHECK.same("README says " + c + ": runs", false, true));
        got.stream().filter(c -> !due.contains(c)).forEach(c -> CHECK.same("runs " + c + ": README says so", false, true));
        classesAreNew(commands);
    }

    private static String sources() {
        List<String> files = new ArrayList<>();
        names("src/test/java", ".java").forEach(name -> files.add("src/test/java/" + name + ".java"));
        return String.join(" ", files);
    }

    /** The word behind -d or -cp is CLASSES. */
    private static String withoutFolder(String command) {
        return command.replaceFirst(" (-d|-cp) \\S+", " $1 CLASSES");
    }

    private static String folderOf(String command) {
        List<String> words = Arrays.asList(command.split(" "));
        int at = Math.max(words.indexOf("-d"), words.indexOf("-cp"));
        return at < 0 || at + 1 >= words.size() ? "" : words.get(at + 1);
    }

    /** Each javac has a folder of its own, and each java that of the javac ahead of it. */
    private static void classesAreNew(List<String> commands) {
        TreeSet<String> folders = new TreeSet<>();
        String latest = "";
        for (String command : commands) {
            String here = folderOf(command);
            if (command.startsWith("javac ")) {
                CHECK.same(command + " has a new folder", folders.add(here), true);
                latest = here;
            } else {
                CHECK.same(command + " has the folder of the javac ahead of it", here.equals(latest), true);
            }
        }
    }

    private void failsWhereOneFails() throws Exception {
        for (String name : own) {
            CHECK.same(SCRIPT + " passes where " + name + " fails", run(name), false);
        }
        for (String name : shared) {
            CHECK.same(SCRIPT + " passes where " + name + " fails", run(name), false);
            CHECK.same(SCRIPT + " passes where " + name + " doesn't compile", run(name + ".java"), false);
        }
        CHECK.same(SCRIPT + " passes where own tests don't compile", run("javac own"), false);
    }

    /** Whether .ci/run passes, called from elsewhere, where what has this name fails. */
    private boolean run(String failing) throws Exception {
        Files.deleteIfExists(noted);
        String root = Path.of("").toRealPath().toString();
        ProcessBuilder builder = new ProcessBuilder(root + "/" + SCRIPT);
        builder.directory(folder.toFile());
        builder.environment().put("PATH", folder + File.pathSeparator + System.getenv("PATH"));
        // By this the shell sorts *.java as names() does.
        builder.environment().put("LC_ALL", "C");
        builder.environment().put("RUN_TEST_ROOT", root);
        builder.environment().put("RUN_TEST_NOTED", noted.toString());
        builder.environment().put("RUN_TEST_FAILING", failing);
        builder.redirectErrorStream(true).redirectOutput(folder.resolve("printed").toFile());
        Process process = builder.start();
        if (!process.waitFor(SECONDS, TimeUnit.SECONDS)) {
            process.destroyForcibly();
            CHECK.same(SCRIPT + " ends", false, true);
            return false;
        }
        CHECK.same(SCRIPT + " calls something", Files.exists(noted), true);
        return process.exitValue() == 0;
    }

    private static void remove(Path folder) throws IOException {
        try (Stream<Path> files = Files.list(folder)) {
            for (Path file : (Iterable<Path>) files::iterator) {
                Files.delete(file);
            }
        }
        Files.delete(folder);
    }
}
