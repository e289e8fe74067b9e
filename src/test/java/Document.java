import java.io.IOException;
import java.io.UncheckedIOException;
import java.nio.file.Files;
import java.nio.file.Path;

/** The words of ../shared/DOC.md, each run of blanks in them being one. */
final class Document {
  private static final String WORDS = read();

  private Document() {}

  private static String read() {
    try {
      return Files.readString(Path.of("../shared/DOC.md")).replaceAll("\\s+", " ");
    } catch (IOException e) {
      throw new UncheckedIOException(e);
    }
  }

  /** They stand in the section of that promise, or in what goes ahead of all promises. */
  static boolean says(int promise, String words) {
    int first = WORDS.indexOf("## Promise 1:");
    int start = WORDS.indexOf("## Promise " + promise + ":");
    if (first < 0 || start < 0) {
      return false;
    }
    int next = WORDS.indexOf("## ", start + 3);
    String section = next < 0 ? WORDS.substring(start) : WORDS.substring(start, next);
    return section.contains(words) || WORDS.substring(0, first).contains(words);
  }
}
