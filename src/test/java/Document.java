import java.io.IOException;
import java.nio.file.Files;
import java.nio.file.Path;
import java.util.ArrayList;
import java.util.LinkedHashMap;
import java.util.List;
import java.util.Map;
import java.util.regex.Matcher;
import java.util.regex.Pattern;

/** ../shared/DOC.md by its heads: "What it is", the heads inside "Terms", and "Promise N". */
final class Document {
  private static final Pattern TERM = Pattern.compile(
      "(Time|Slides|Guests|Bookings|Queues|Minutes|Finishes|Commands|Undo|Errors)\\. (.*)");
  private static final Pattern NAMES_A_BOUNDARY = Pattern.compile(".*\\d.*|Throws .*");

  /** A text is a paragraph of the document or a line of a list, its line breaks made blanks. */
  private final Map<String, List<String>> texts = new LinkedHashMap<>();
  private final List<String> terms = new ArrayList<>();

  Document() throws IOException {
    for (String part : Files.readString(Path.of("../shared/DOC.md")).split("(?m)^## ")) {
      String[] paragraphs = part.split("\n\n");
      String title = paragraphs[0].trim().replaceAll(":.*", "");
      String head = title;
      for (int i = 1; i < paragraphs.length; i++) {
        String text = paragraphs[i].trim().replaceAll("\\s+", " ");
        Matcher term = TERM.matcher(text);
        if (title.equals("Terms") && term.matches()) {
          head = term.group(1);
          text = term.group(2);
        }
        for (String line : text.split(" (?=- `)")) {
          texts.computeIfAbsent(head, key -> new ArrayList<>()).add(line);
        }
        if (title.equals("Terms")) {
          for (String sentence : text.split("(?<=\\.) (?=[A-Z\"])")) {
            terms.add(head + ": " + sentence);
          }
        }
      }
    }
  }

  boolean says(String quote) {
    String head = quote.replaceAll(": .*", "");
    String words = quote.substring(head.length() + 2);
    for (String text : texts.getOrDefault(head, List.of())) {
      if (text.contains(words)) {
        return true;
      }
    }
    return false;
  }

  /** All sentences of "Terms". */
  List<String> terms() {
    return terms;
  }

  /** The texts of the promises that name a number or an exception. */
  List<String> boundariesOfPromises() {
    List<String> found = new ArrayList<>();
    for (int promise = 1; promise <= 57; promise++) {
      String head = "Promise " + promise;
      for (String text : texts.getOrDefault(head, List.of())) {
        if (NAMES_A_BOUNDARY.matcher(text).matches()) {
          found.add(head + ": " + text);
        }
      }
    }
    return found;
  }
}
