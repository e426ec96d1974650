import java.io.IOException;
import java.nio.file.Files;
import java.nio.file.Path;
import java.util.ArrayList;
import java.util.List;

/** The sentences of ../shared/DOC.md below their headings; a ";" ends a sentence too. */
final class Document {
  record Sentence(String heading, String words) {
  }

  private final List<Sentence> sentences = new ArrayList<>();
  private final StringBuilder paragraph = new StringBuilder();
  private String heading = "";

  Document() throws IOException {
    boolean isCode = false;
    for (String line : Files.readAllLines(Path.of("../shared/DOC.md"))) {
      if (line.startsWith("```")) {
        isCode = !isCode;
      } else if (!isCode) {
        read(line);
      }
    }
    endParagraph();
  }

  private void read(String line) {
    boolean isHeading = line.startsWith("#");
    boolean isSignature = line.startsWith("`") || line.startsWith("----");
    if (line.isBlank() || isHeading || isSignature || line.startsWith("- ")) {
      endParagraph();
    }
    if (isHeading) {
      heading = line.replaceFirst("^#+ ", "");
    } else if (!line.isBlank() && !isSignature) {
      paragraph.append(line.startsWith("- ") ? line.substring(2) : line).append(' ');
    }
  }

  private void endParagraph() {
    for (String words : paragraph.toString().trim().split("(?<=[.;])\\s+|(?<=\\.\\))\\s+")) {
      if (!words.isEmpty()) {
        sentences.add(new Sentence(heading, words));
      }
    }
    paragraph.setLength(0);
  }

  List<Sentence> sentences() {
    return sentences;
  }

  /** The sentence that has just these words, or the only one that begins with them, or null. */
  Sentence find(String below, String words) {
    Sentence found = null;
    for (Sentence sentence : sentences) {
      if (sentence.heading().equals(below) && sentence.words().equals(words)) {
        return sentence;
      }
      if (sentence.heading().equals(below) && sentence.words().startsWith(words)) {
        if (found != null) {
          return null;
        }
        found = sentence;
      }
    }
    return found;
  }
}
