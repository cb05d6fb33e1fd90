import java.io.IOException;
import java.nio.file.Files;
import java.nio.file.Path;
import java.nio.file.attribute.PosixFilePermissions;
import java.util.Comparator;
import java.util.List;
import java.util.stream.Stream;

/**
 * .ci/run in a small project of two tests and two shared ones: it runs all of them, and fails if
 * one fails. In place of javac and java stand scripts that write down what they are called for.
 */
final class RunScriptTest {
    private static final Checks CHECKS = new Checks("RunScriptTest");
    private static final List<String> TESTS =
            List.of("FirstSharedRuns", "SecondSharedRuns", "FirstTest", "SecondTest");
    private static final String STAND_IN = String.join("\n",
            "#!/bin/sh",
            "for last; do :; done",
            "called=\"$(basename \"$0\") $(basename \"$last\")\"",
            "echo \"$called\" >> \"$CALLS\"",
            "[ \"$called\" != \"$FAILING\" ]",
            "");

    public static void main(String[] args) throws IOException, InterruptedException {
        Path folder = Files.createTempDirectory("run");
        try {
            makeProject(folder);
            allTestsAreRun(folder);
            aTestThatFailsIsSeen(folder);
            aTestThatCannotBeCompiledIsSeen(folder);
            sharedTestsThatAreMissingAreSeen(folder);
        } finally {
            removeAll(folder);
        }
        CHECKS.end();
    }

    private static void makeProject(Path folder) throws IOException {
        String run = Files.readString(Path.of(".ci/run"));
        write(folder.resolve("project/.ci/run"), run);
        write(folder.resolve("project/src/main/java/LayeredImages.java"), "");
        write(folder.resolve("project/src/test/java/Helper.java"), "");
        for (String test : TESTS) {
            boolean shared = test.endsWith("Runs");
            write(folder.resolve(shared ? "shared/tests" : "project/src/test/java")
                    .resolve(test + ".java"), "");
        }
        write(folder.resolve("bin/javac"), STAND_IN);
        write(folder.resolve("bin/java"), STAND_IN);
    }

    private static void write(Path file, String text) throws IOException {
        Files.createDirectories(file.getParent());
        Files.writeString(file, text);
        Files.setPosixFilePermissions(file, PosixFilePermissions.fromString("rwxr-xr-x"));
    }

    private static int exitCode(Path folder, String failing)
            throws IOException, InterruptedException {
        Files.deleteIfExists(folder.resolve("calls"));
        ProcessBuilder run = new ProcessBuilder(folder.resolve("project/.ci/run").toString());
        run.environment().put("PATH", folder.resolve("bin") + ":" + System.getenv("PATH"));
        run.environment().put("CALLS", folder.resolve("calls").toString());
        run.environment().put("FAILING", failing);
        run.redirectErrorStream(true).redirectOutput(folder.resolve("output").toFile());
        return run.start().waitFor();
    }

    private static void eachIsRunOnce(Path folder, String without) throws IOException {
        List<String> calls = Files.readAllLines(folder.resolve("calls"));
        for (String test : TESTS) {
            long times = calls.stream().filter(("java " + test)::equals).count();
            CHECKS.same("runs of " + test, test.equals(without) ? 0 : 1, times);
        }
        CHECKS.holds("what is no test is not run", !calls.contains("java Helper"));
    }

    private static void allTestsAreRun(Path folder) throws IOException, InterruptedException {
        CHECKS.same("the exit code if none fails", 0, exitCode(folder, ""));
        eachIsRunOnce(folder, "");
    }

    private static void aTestThatFailsIsSeen(Path folder)
            throws IOException, InterruptedException {
        for (String test : TESTS) {
            CHECKS.same("the exit code if " + test + " fails", 1,
                    exitCode(folder, "java " + test));
            eachIsRunOnce(folder, "");
        }
    }

    private static void aTestThatCannotBeCompiledIsSeen(Path folder)
            throws IOException, InterruptedException {
        CHECKS.same("the exit code if a shared test cannot be compiled", 1,
                exitCode(folder, "javac SecondSharedRuns.java"));
        eachIsRunOnce(folder, "SecondSharedRuns");
        CHECKS.same("the exit code if the project's tests cannot be compiled", 1,
                exitCode(folder, "javac SecondTest.java"));
    }

    private static void sharedTestsThatAreMissingAreSeen(Path folder)
            throws IOException, InterruptedException {
        removeAll(folder.resolve("shared"));
        CHECKS.same("the exit code without shared tests", 1, exitCode(folder, ""));
    }

    private static void removeAll(Path folder) throws IOException {
        try (Stream<Path> files = Files.walk(folder)) {
            for (Path file : files.sorted(Comparator.reverseOrder()).toList()) {
                Files.delete(file);
            }
        }
    }
}
