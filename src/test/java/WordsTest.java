import java.io.IOException;
import java.nio.file.Files;
import java.nio.file.Path;
import java.util.ArrayList;
import java.util.Arrays;
import java.util.LinkedHashMap;
import java.util.List;
import java.util.Map;
import java.util.regex.Matcher;
import java.util.regex.Pattern;
import java.util.stream.Collectors;
import java.util.stream.Stream;

/**
 * The words that the tests say stand in the document, in the promise or the term that the test is
 * named by, and each promise and term has some. With the argument "left" it prints what no test says.
 */
public final class WordsTest {
  private static final Path TESTS = Path.of("src/test/java");
  private static final Path DOCUMENT = Path.of("../shared/DOC.md");
  private static final String[] TERMS = {"I", "II", "III", "IV", "V", "VI"};

  public static void main(String[] args) throws IOException {
    if (!Files.exists(DOCUMENT)) {
      System.out.println("WordsTest: no document at " + DOCUMENT);
      return;
    }
    String text = Files.readString(DOCUMENT);
    Map<String, String> sections = sections(text);
    Map<String, List<String>> said = said();
    for (String name : sections.keySet()) {
      Due.is(name + " has words that a test says", said.containsKey(name), true);
    }
    said.forEach((name, all) -> all.forEach(words -> {
      boolean stands = sections.getOrDefault(name, "").contains(words) || sections.get("term").contains(words);
      Due.is("in " + name + " stand the words: " + words, stands, true);
    }));
    if (args.length > 0 && args[0].equals("left")) {
      sections.forEach((name, words) -> System.out.println(name + ": " + left(words, said.get(name))));
    }
    Due.end("WordsTest");
  }

  private static String plain(String text) {
    return text.replaceAll("```(text)?", " ").replaceAll("\\s+", " ").trim();
  }

  /**
   * The document's parts by the names that tests have: promise1 .. promise45, termI .. termVI, and
   * term for what is ahead of the terms and behind them.
   */
  private static Map<String, String> sections(String text) {
    Map<String, String> found = new LinkedHashMap<>();
    String terms = text.substring(text.indexOf("## Terms"), text.indexOf("## Promise 1:"));
    int end = terms.indexOf("A call that is refused");
    String before = text.substring(0, text.indexOf("## Terms"));
    found.put("term", plain(before + terms.substring(end)));
    for (int k = 0; k < TERMS.length; k++) {
      int from = terms.indexOf("\n" + TERMS[k] + ". ");
      int to = k + 1 < TERMS.length ? terms.indexOf("\n" + TERMS[k + 1] + ". ") : end;
      found.put("term" + TERMS[k], plain(terms.substring(from, to)));
    }
    Matcher m = Pattern.compile("(?s)## Promise (\\d+):(.*?)(?=\n## )").matcher(text);
    while (m.find()) {
      found.put("promise" + m.group(1), plain(m.group(2)));
    }
    return found;
  }

  /** What the tests say, by the promise or term in their names. */
  private static Map<String, List<String>> said() throws IOException {
    Map<String, List<String>> said = new LinkedHashMap<>();
    List<Path> files;
    try (Stream<Path> all = Files.list(TESTS)) {
      files = all.filter(f -> f.toString().endsWith("Test.java")).sorted().collect(Collectors.toList());
    }
    Pattern test = Pattern.compile("static void ((?:promise|term)\\w*?)_\\w+\\(\\)|Due\\.says\\(\"([^\"]*)\"\\)");
    for (Path file : files) {
      String name = "";
      Matcher m = test.matcher(Files.readString(file));
      while (m.find()) {
        if (m.group(1) != null) {
          name = m.group(1);
        } else {
          said.computeIfAbsent(name, n -> new ArrayList<>()).add(m.group(2));
        }
      }
    }
    return said;
  }

  private static String left(String words, List<String> said) {
    List<String> longest = new ArrayList<>(said);
    longest.sort((p, q) -> q.length() - p.length());
    boolean[] gone = new boolean[words.length()];
    for (String s : longest) {
      for (int at = words.indexOf(s); at >= 0; at = words.indexOf(s, at + 1)) {
        Arrays.fill(gone, at, at + s.length(), true);
      }
    }
    StringBuilder out = new StringBuilder();
    for (int i = 0; i < words.length(); i++) {
      out.append(gone[i] ? '_' : words.charAt(i));
    }
    return out.toString().replaceAll("_+", " ___ ");
  }
}
