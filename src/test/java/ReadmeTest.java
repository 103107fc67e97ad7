import java.io.IOException;
import java.lang.reflect.Method;
import java.lang.reflect.Modifier;
import java.nio.charset.StandardCharsets;
import java.nio.file.Files;
import java.nio.file.Path;
import java.util.List;
import java.util.regex.Matcher;
import java.util.regex.Pattern;

/**
 * README.md works as it stands: its program, saved and run as it says, prints what it says, its
 * table names every method, and the files and tests that it names are there.
 */
public final class ReadmeTest {
  private static final Path FOLDER = Path.of("build/readme");
  private static final String CLASS_FILE = "src/main/java/SlidePark.java";

  public static void main(String[] args) throws IOException, InterruptedException {
    String page = Files.readString(Path.of("README.md"));
    Check.due("what the program of README.md prints",
        printed(block(page, "java"), block(page, "sh")), block(page, "text"));
    for (Method method : SlidePark.class.getDeclaredMethods()) {
      if (Modifier.isPublic(method.getModifiers())) {
        Check.due("README.md names " + method.getName(),
            page.contains("`" + method.getName() + "`"), true);
      }
    }
    dueThere(page, "`((?:\\.\\./shared|src)/[\\w/.]*|\\.ci/run)`", "%s");
    dueThere(page, "`(\\w+Test)`", "src/test/java/%s.java");
    dueThere(page, "java -cp build/test (\\w+)", "src/test/java/%s.java");
    Check.due(".ci/run can be executed", Files.isExecutable(Path.of(".ci/run")), true);
    Check.close("ReadmeTest");
  }

  /** The first block of this kind. */
  private static String block(String page, String kind) {
    Matcher found = Pattern.compile("(?ms)^```" + kind + "\n(.*?)^```").matcher(page);
    if (!found.find()) {
      Check.fail("README.md has no block of the kind " + kind);
      return "";
    }
    return found.group(1);
  }

  /** Does in a folder of its own what the page says is to be done in the project's folder. */
  private static String printed(String program, String commands)
      throws IOException, InterruptedException {
    Path copy = FOLDER.resolve(CLASS_FILE);
    Files.createDirectories(copy.getParent());
    Files.write(copy, Files.readAllBytes(Path.of(CLASS_FILE)));
    Files.writeString(FOLDER.resolve("Tour.java"), program);
    Process process = new ProcessBuilder(List.of("sh", "-e", "-c", commands))
        .directory(FOLDER.toFile()).redirectError(ProcessBuilder.Redirect.INHERIT).start();
    String output = new String(process.getInputStream().readAllBytes(), StandardCharsets.UTF_8);
    Check.due("exit code of the commands of README.md", process.waitFor(), 0);
    return output;
  }

  private static void dueThere(String page, String shape, String place) {
    Matcher found = Pattern.compile(shape).matcher(page);
    Check.due("README.md names a file of the form " + shape, found.find(), true);
    found.reset();
    while (found.find()) {
      Path path = Path.of(String.format(place, found.group(1)));
      Check.due(path + " is there", Files.exists(path), true);
    }
  }
}
