import java.io.PrintWriter;
import java.io.StringWriter;
import java.net.URISyntaxException;
import java.nio.file.Path;
import java.util.Map;
import java.util.Optional;
import java.util.Set;
import java.util.TreeMap;
import java.util.TreeSet;
import java.util.regex.Matcher;
import java.util.regex.Pattern;
import java.util.spi.ToolProvider;

/** What the compiled class calls: how deep calls go, no recursion, and what of the library. */
public final class DepthTest {
  private static final int MOST = 8;
  private static final Set<String> LIBRARY =
      Set.of("java.lang.Object.Object", "java.lang.Math.max", "java.lang.Math.min", "java.lang.Math.abs");
  private static final Pattern DECLARED = Pattern.compile("^  (?!.*\\bclass\\b)(?:[\\w$<>\\[\\].]+ )*([\\w$.]+)\\(.*\\);$");
  private static final Pattern CALLED = Pattern.compile("// (?:Interface)?Method (?:([\\w$/]+)\\.)?\"?([\\w<>]+)\"?:");
  private static final Pattern OTHER = Pattern.compile("^ +\\d+: (athrow|invokedynamic|checkcast|instanceof|[dl]2d|[df](add|sub|mul|div|rem|load|store)\\w*)");
  private static final Map<String, Set<String>> calls = new TreeMap<>();

  public static void main(String[] args) throws URISyntaxException {
    Optional<ToolProvider> javap = ToolProvider.findFirst("javap");
    if (javap.isEmpty()) {
      System.out.println("DepthTest: no javap here");
      return;
    }
    read(javap.get(), SystemLab.class);
    for (Class<?> c : SystemLab.class.getDeclaredClasses()) {
      read(javap.get(), c);
    }
    Due.is("methods were seen", calls.size() > 100, true);
    for (String name : calls.keySet()) {
      String deepest = deepest(name, "");
      Due.is(deepest + ": at most " + MOST + " deep", deepest.split(" > ").length <= MOST, true);
      for (String called : calls.get(name)) {
        Due.is(name + " calls " + called, calls.containsKey(called) || LIBRARY.contains(called), true);
      }
    }
    Due.end("DepthTest");
  }

  /** Notes what each method of a class calls. Methods of one name count as one. */
  private static void read(ToolProvider javap, Class<?> c) throws URISyntaxException {
    Path at = Path.of(c.getProtectionDomain().getCodeSource().getLocation().toURI()).resolve(c.getName() + ".class");
    StringWriter out = new StringWriter();
    int code = javap.run(new PrintWriter(out), new PrintWriter(out), "-c", "-p", at.toString());
    Due.is("javap of " + at, code, 0);
    Set<String> now = new TreeSet<>();
    for (String line : out.toString().split("\n")) {
      Matcher declared = DECLARED.matcher(line);
      Matcher called = CALLED.matcher(line);
      if (declared.matches()) {
        String name = c.getName() + "." + last(declared.group(1));
        now = calls.computeIfAbsent(name, n -> new TreeSet<>());
      } else if (called.find()) {
        String owner = called.group(1) == null ? c.getName() : called.group(1).replace('/', '.');
        now.add(owner + "." + (called.group(2).equals("<init>") ? last(owner) : called.group(2)));
      }
      Due.is(c.getName() + " has" + line, OTHER.matcher(line).find(), false);
    }
  }

  private static String last(String name) {
    return name.substring(name.lastIndexOf('.') + 1);
  }

  /** The longest way of calls from a method on; a method that comes back to itself makes it too long. */
  private static String deepest(String name, String before) {
    String way = before.isEmpty() ? name : before + " > " + name;
    String longest = way;
    if (way.split(" > ").length > MOST) {
      return way;
    }
    for (String called : calls.getOrDefault(name, Set.of())) {
      String one = deepest(called, way);
      if (one.split(" > ").length > longest.split(" > ").length) {
        longest = one;
      }
    }
    return longest;
  }
}
