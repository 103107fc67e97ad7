import java.io.IOException;
import java.nio.file.Files;
import java.nio.file.Path;
import java.util.List;
import java.util.regex.Pattern;

/** Rules of ../shared/LANGUAGE.md that can be seen in the text of the class. */
public final class LanguageTest {
  private static final String[] RULED_OUT = {
    "->", "::", "\\bcatch\\b", "\\bfinally\\b", "\\bassert\\b", "\\bsynchronized\\b",
    "\\b(Integer|Long)\\.[A-Z]", "\\bInteger\\[\\]",
    "\\bpackage\\b", "\\bprotected\\b", "Exact\\(", "\\bhashCode\\b", "\\btoString\\(\\)",
    "\\bObject\\b", "\\bMath\\.(?!max|min)", "\\bthrows? new (?!IllegalStateException|"
        + "IllegalArgumentException|IndexOutOfBoundsException|ArithmeticException|"
        + "UnsupportedOperationException|NoSuchElementException)", "\\bvar\\b", "\\bnew String\\b",
    "\\bstatic \\{", "\\bordinal\\(", "\\bSystem\\.(?!arraycopy)"
  };

  public static void main(String[] args) throws IOException {
    List<String> lines = Files.readAllLines(Path.of("src/main/java/SlidePark.java"));
    int methodLines = 0;
    for (String line : lines) {
      String code = line.replaceAll("\"[^\"]*\"", "\"\"").replaceAll("^\\s*(/?\\*|//).*", "");
      if (code.startsWith("import")) {
        Check.due("import", code, "import java.util.NoSuchElementException;");
      }
      for (String rule : RULED_OUT) {
        Check.due(rule + " in: " + line, Pattern.compile(rule).matcher(code).find(), false);
      }
      Check.due("length of: " + line, line.length() <= 100, true);
      methodLines = code.isBlank() ? 0 : methodLines + 1;
      Check.due("a method or class head of over 60 lines without a gap at: " + line,
          methodLines <= 60, true);
    }
    Check.close("LanguageTest");
  }
}
