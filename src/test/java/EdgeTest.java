import java.io.IOException;
import java.nio.file.Path;

/** The document's boundary cases, each beside the words that name it; no words of its terms and promises are left out. */
public final class EdgeTest {
  public static void main(String[] args) throws IOException {
    Checks checks = new Checks("EdgeTest");
    Sentences document = new Sentences(Path.of("../shared/DOC.md"));
    Edge edge = new Edge(checks, document);
    new PictureEdges(edge).check();
    new PrintEdges(edge).check();
    new SnapshotEdges(edge).check();
    new TextEdges(edge).check();
    new LookingEdges(edge).check();
    new ReasonsEdges(edge).check();
    new ErrorEdges(edge).check();
    String[] terms = {"Terms", "Picture", "Blocks", "Register", "Prints", "Snapshots", "Text", "Undo", "Errors"};
    for (String section : terms) {
      noneLeft(checks, section, document.left(section));
    }
    for (int promise = 1; promise <= 24; promise++) {
      noneLeft(checks, "Promise " + promise, document.left("Promise " + promise));
    }
    checks.end();
  }

  /** A promise's first line, and the headings that the interface bears, name no case of their own. */
  private static void noneLeft(Checks checks, String section, String left) {
    String words = left.replaceAll("^`[^`]*`", "").replaceAll("^Ahead of the calls .*", "").strip();
    checks.holds(section + " has words that no test is about: " + words, words.isEmpty());
  }
}
