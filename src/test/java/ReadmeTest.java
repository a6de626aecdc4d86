import java.io.IOException;
import java.lang.reflect.Method;
import java.lang.reflect.Modifier;
import java.nio.file.Files;
import java.nio.file.Path;
import java.util.ArrayList;
import java.util.List;
import java.util.regex.Matcher;
import java.util.regex.Pattern;
import java.util.stream.Stream;

/** Does what README.md shows, in a copy of the project, and looks whether all it names is there. */
public final class ReadmeTest {
    /** Done by whoever runs this test; CiTest looks at what it answers. */
    private static final String ALL_TESTS = ".ci/run\n";

    private record Block(String language, String text) {
    }

    private ReadmeTest() {
    }

    public static void main(String[] args) throws IOException, InterruptedException {
        String readme = Files.readString(Path.of("README.md"));
        doWhatIsShown(blocksOf(readme));
        callsAreNamed(readme);
        testsAreNamed(readme);
        classesAreThere(readme);
        Check.end();
    }

    private static List<Block> blocksOf(String readme) {
        List<Block> blocks = new ArrayList<>();
        Matcher found = Pattern.compile("(?ms)^```(\\w+)\n(.*?)^```$").matcher(readme);
        while (found.find()) {
            blocks.add(new Block(found.group(1), found.group(2)));
        }
        return blocks;
    }

    private static void doWhatIsShown(List<Block> blocks) throws IOException, InterruptedException {
        int examples = 0;
        int commands = 0;
        try (Project project = new Project()) {
            project.take("src");
            project.take("../shared");
            for (Block block : blocks) {
                if (block.language().equals("java")) {
                    project.write("Example.java", block.text());
                    examples++;
                } else if (block.language().equals("text")) {
                    Check.due("what README.md says is printed", project.whatWasPrinted(), block.text());
                } else if (block.text().equals(ALL_TESTS)) {
                    Check.due("all tests can be run", Files.isExecutable(Path.of(".ci/run")), true);
                    commands++;
                } else {
                    dueRun(project, block.text());
                    commands++;
                }
            }
        }
        Check.due("examples in README.md", examples, 1);
        Check.due("commands in README.md", commands, 4);
    }

    private static void dueRun(Project project, String script) throws IOException, InterruptedException {
        int code = project.run(script);
        Check.due("README.md shows: " + script, code, 0);
        if (code != 0) {
            System.out.println(project.whatWasPrinted());
        }
    }

    private static void callsAreNamed(String readme) {
        for (Method method : FleetFloor.class.getDeclaredMethods()) {
            if (Modifier.isPublic(method.getModifiers())) {
                boolean named = Pattern.compile("(?m)^\\|.*`" + method.getName() + "\\([^`]*`.*\\|").matcher(readme).find();
                Check.due("README.md says what " + method.getName() + " answers", named, true);
            }
        }
    }

    private static void testsAreNamed(String readme) throws IOException {
        try (Stream<Path> files = Files.list(Path.of("src/test/java"))) {
            for (Path file : (Iterable<Path>) files::iterator) {
                String name = file.getFileName().toString().replace(".java", "");
                if (name.endsWith("Test")) {
                    Check.due("README.md names " + name, readme.contains("`" + name + "`"), true);
                }
            }
        }
        Matcher named = Pattern.compile("`(\\w+Test)`").matcher(readme);
        while (named.find()) {
            Check.due(named.group(1) + " is there",
                    Files.exists(Path.of("src/test/java", named.group(1) + ".java")), true);
        }
    }

    private static void classesAreThere(String readme) {
        String built = readme.substring(readme.indexOf("## How it is built"));
        for (Class<?> inside : FleetFloor.class.getDeclaredClasses()) {
            Check.due("README.md names " + inside, built.contains("`" + inside.getSimpleName() + "`"), true);
        }
    }
}
