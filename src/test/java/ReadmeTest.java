import java.io.IOException;
import java.nio.file.Files;
import java.nio.file.Path;
import java.util.ArrayList;
import java.util.Comparator;
import java.util.List;
import java.util.regex.Matcher;
import java.util.regex.Pattern;
import java.util.stream.Collectors;
import java.util.stream.Stream;

/** README.md: its program and its commands do what it says, and it names every call and every test. */
public final class ReadmeTest {
  private static final Path README = Path.of("README.md");
  private static final Path TESTS = Path.of("src/test/java");
  private static final Path SHARED = Path.of("../shared");

  public static void main(String[] args) throws IOException, InterruptedException {
    String text = Files.readString(README);
    namesEveryCall(text);
    namesEveryTest(text);
    Path room = Files.createTempDirectory("readme");
    try {
      Path checkout = checkout(room);
      Files.writeString(checkout.resolve("Example.java"), block(text, "java"));
      commandsRun(text, checkout);
    } finally {
      remove(room);
    }
    Due.end("ReadmeTest");
  }

  /** Each call of the document's face stands in the README with the names of its arguments. */
  private static void namesEveryCall(String text) throws IOException {
    Path document = SHARED.resolve("DOC.md");
    if (!Files.exists(document)) {
      System.out.println("ReadmeTest: no document at " + document);
      return;
    }
    Matcher call = Pattern.compile("    public (?:int|long|boolean) (\\w+)\\(([^)]*)\\);").matcher(Files.readString(document));
    int calls = 0;
    while (call.find()) {
      String told = "`" + call.group(1) + "(" + call.group(2).replaceAll("(int|long|boolean) ", "") + ")`";
      Due.is("README.md names " + told, text.contains(told), true);
      calls++;
    }
    Due.is("calls were seen", calls, 44);
  }

  private static void namesEveryTest(String text) throws IOException {
    List<String> there;
    try (Stream<Path> all = Files.list(TESTS)) {
      there = all.map(f -> f.getFileName().toString()).filter(f -> f.endsWith("Test.java"))
          .map(f -> f.substring(0, f.length() - ".java".length())).sorted().collect(Collectors.toList());
    }
    for (String name : there) {
      Due.is("README.md names `" + name + "`", text.contains("`" + name + "`"), true);
    }
    Matcher named = Pattern.compile("`(\\w+Test)`").matcher(text);
    while (named.find()) {
      Due.is("there is a test " + named.group(1), there.contains(named.group(1)), true);
    }
  }

  /** The first block of the README with this mark. */
  private static String block(String text, String mark) {
    Matcher m = Pattern.compile("(?s)```" + mark + "\\n(.*?)```").matcher(text);
    boolean found = m.find();
    Due.is("README.md has a block of " + mark, found, true);
    return found ? m.group(1) : "";
  }

  /** A copy of src in a folder of its own, with shared beside it, for nothing is to be left here. */
  private static Path checkout(Path room) throws IOException {
    Path checkout = Files.createDirectory(room.resolve("main"));
    Files.createSymbolicLink(room.resolve("shared"), SHARED.toRealPath());
    List<Path> all;
    try (Stream<Path> walk = Files.walk(Path.of("src"))) {
      all = walk.sorted().collect(Collectors.toList());
    }
    for (Path p : all) {
      Files.copy(p, checkout.resolve(p));
    }
    return checkout;
  }

  /** Runs what the README tells to type, in its order. */
  private static void commandsRun(String text, Path checkout) throws IOException, InterruptedException {
    List<String> commands = new ArrayList<>();
    Matcher m = Pattern.compile("(?m)^    (javac? .*)$").matcher(text);
    while (m.find()) {
      commands.add(m.group(1));
    }
    Due.is("README.md has commands", commands.size() >= 6, true);
    for (String command : commands) {
      String out = run(command, checkout);
      if (command.endsWith(" Example")) {
        Due.is("it prints what README.md says, not:\n" + out + "that", out.equals(block(text, "text")), true);
      }
    }
  }

  private static String run(String command, Path where) throws IOException, InterruptedException {
    Process process = new ProcessBuilder("sh", "-c", command).directory(where.toFile())
        .redirectErrorStream(true).start();
    String out = new String(process.getInputStream().readAllBytes());
    int code = process.waitFor();
    Due.is("exit code of: " + command + (code == 0 ? "" : "\n" + out), code, 0);
    return out;
  }

  private static void remove(Path room) throws IOException {
    List<Path> all;
    try (Stream<Path> walk = Files.walk(room)) {
      all = walk.sorted(Comparator.reverseOrder()).collect(Collectors.toList());
    }
    for (Path p : all) {
      Files.delete(p);
    }
  }
}
