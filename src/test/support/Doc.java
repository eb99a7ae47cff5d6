import java.io.IOException;
import java.io.UncheckedIOException;
import java.nio.file.Files;
import java.nio.file.Path;

/** The document, read by its parts, so that a test can say which of its sentences it holds the program to. */
final class Doc {
  static final int TERMS = 0;
  static final int PROMISES = 51;

  private static final String TEXT = read();

  private Doc() { }

  private static String read() {
    try {
      return Files.readString(Path.of("..", "shared", "DOC.md"));
    } catch (IOException e) {
      throw new UncheckedIOException(e);
    }
  }

  /** The text of a promise with its line of the face; 0 are the Terms. */
  static String part(int promise) {
    String heading = promise == TERMS ? "## Terms\n" : "## Promise " + promise + ": ";
    int from = TEXT.indexOf(heading);
    if (from < 0) throw new IllegalArgumentException("the document has no part " + promise);
    int to = TEXT.indexOf("\n## ", from + 1);
    String part = TEXT.substring(from, to);
    return part.substring(part.indexOf('\n') + 1).trim();
  }

  static boolean says(int promise, String sentence) {
    return part(promise).contains(sentence);
  }
}
