import java.io.IOException;
import java.nio.file.Files;
import java.nio.file.Path;
import java.util.Map;
import java.util.TreeMap;

/** The document's sections, and which of their words a test has told that it is about. */
final class Sentences {
  private final Map<String, String> sections = new TreeMap<>();
  private final Map<String, String> leftWords = new TreeMap<>();

  Sentences(Path document) throws IOException {
    String title = "";
    for (String line : Files.readString(document).split("\n")) {
      if (line.startsWith("#")) {
        title = line.replaceAll("^#+ ", "").replaceAll("^(Promise \\d+):.*", "$1");
      } else if (!line.startsWith("```")) {
        sections.merge(title, line.strip(), (before, more) -> (before + " " + more).strip());
      }
    }
    sections.replaceAll((name, words) -> words.replaceAll("\\s+", " "));
    leftWords.putAll(sections);
  }

  /** Takes the words as told; answers whether they stand in the section. */
  boolean take(String section, String words) {
    if (!sections.containsKey(section) || !sections.get(section).contains(words)) {
      return false;
    }
    leftWords.put(section, leftWords.get(section).replace(words, "|"));
    return true;
  }

  /** What of a section no test has told, without signs. */
  String left(String section) {
    return leftWords.get(section).replaceAll("[|;:.,\\s-]+", " ").strip();
  }

  Iterable<String> names() {
    return sections.keySet();
  }
}
