import java.io.IOException;
import java.io.UncheckedIOException;
import java.nio.file.Files;
import java.nio.file.Path;
import java.util.ArrayList;
import java.util.LinkedHashMap;
import java.util.List;
import java.util.Map;

/** The document's sentences, and which of them tests have quoted. */
final class Document {
  /** Sentences that only name what others say, or that leave an answer free. */
  private static final List<String> NOTHING_TO_TEST = List.of(
      "Types and terms of higher-order logic:", "what later calls answer is free.",
      "TYPES.", "HANDLES.", "PREFIX ORDER.", "MATCHING a pattern p with a term t.");

  private static final Map<String, List<String>> SECTIONS = read();
  private static final List<String> QUOTED = new ArrayList<>();

  private Document() {}

  private static Map<String, List<String>> read() {
    Map<String, List<String>> sections = new LinkedHashMap<>();
    for (String text : source().split("\n## ")) {
      String title = text.substring(0, text.indexOf('\n'));
      String name = title.contains(":") ? title.substring(0, title.indexOf(':')) : title;
      if (name.matches("What it is|Terms|Promise \\d+")) {
        sections.put(name, sentences(text.substring(title.length())));
      }
    }
    return sections;
  }

  private static String source() {
    try {
      return Files.readString(Path.of("../shared/DOC.md"));
    } catch (IOException e) {
      throw new UncheckedIOException(e);
    }
  }

  private static List<String> sentences(String body) {
    String text = body.replace("```text", "").replace("```", "").replaceAll("\\s+", " ").trim();
    String plain = text.replaceAll("^`[^`]*`: ", "");
    return List.of(plain.split("(?<=[^.][.;]|\\.\\)) "));
  }

  /** A test quotes a sentence, or how it begins. */
  static void quote(String section, String beginning) {
    boolean found = false;
    for (String sentence : SECTIONS.getOrDefault(section, List.of())) {
      if (sentence.startsWith(beginning)) {
        QUOTED.add(section + ": " + sentence);
        found = true;
      }
    }
    Checks.due("the document has: " + section + ": " + beginning, found ? "yes" : "no", "yes");
  }

  static void checkAllQuoted() {
    Checks.due("sections", Integer.toString(SECTIONS.size()), "24");
    for (String section : SECTIONS.keySet()) {
      for (String sentence : SECTIONS.get(section)) {
        boolean tested = QUOTED.contains(section + ": " + sentence)
            || NOTHING_TO_TEST.stream().anyMatch(sentence::startsWith);
        Checks.due("a test of: " + section + ": " + sentence, tested ? "yes" : "no", "yes");
      }
    }
  }
}
