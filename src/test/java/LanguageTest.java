import java.io.IOException;
import java.lang.reflect.Constructor;
import java.lang.reflect.Field;
import java.lang.reflect.Method;
import java.lang.reflect.Modifier;
import java.nio.file.Files;
import java.nio.file.Path;
import java.util.Set;
import java.util.TreeSet;
import java.util.regex.Matcher;
import java.util.regex.Pattern;

/** What of LANGUAGE.md a look at the class and its text can tell. */
public final class LanguageTest {
  private static final String FACE = "matrix drop put get shape sum product transpose formed block same factor release"
      + " part order growth pivots vector forget set value size solve residual greatest refine inverse exactly rank"
      + " nullVector determinant digits condition gap bound reorder place pack octet feed end take unpack count";
  private static final String[] NEVER = {"\\bimport\\b", "\\bpackage\\b", "\\bdouble\\b", "\\bfloat\\b", "\\bthrow\\b",
    "\\btry\\b", "\\bcatch\\b", "\\bfinally\\b", "\\bsynchronized\\b", "\\bassert\\b", "->", "::", "\\binstanceof\\b",
    "\\bstatic \\{", "\\bString\\b", "\\bObject\\b", "Exact\\(", "\\bSystem\\.", "\\bDouble\\.", "\\bLong\\.",
    "\\bInteger\\.", "\\bthread", "\\bnative\\b", "\\bprotected\\b", "[^\\x00-\\x7F]", "\\bvar\\b", "\\bwhile \\(true"};
  private static final Set<String> LIBRARY = Set.of("max", "min", "abs");

  public static void main(String[] args) throws IOException {
    face();
    inside();
    text();
    Due.end("LanguageTest");
  }

  private static void face() {
    Set<String> want = new TreeSet<>(Set.of(FACE.split(" ")));
    Set<String> got = new TreeSet<>();
    for (Method m : SystemLab.class.getDeclaredMethods()) {
      boolean isPrivate = Modifier.isPrivate(m.getModifiers());
      Due.is(m + " is public or private", isPrivate || Modifier.isPublic(m.getModifiers()), true);
      Due.is(m + " is private and bears no public name", isPrivate && want.contains(m.getName()), false);
      if (!isPrivate) {
        got.add(m.getName());
      }
    }
    Due.is("the face is " + got, got.equals(want), true);
    for (Field f : SystemLab.class.getDeclaredFields()) {
      boolean open = f.getName().equals("NONE");
      Due.is(f + " is open only if it is NONE", Modifier.isPublic(f.getModifiers()), open);
      Due.is(f + " is private or NONE", open || Modifier.isPrivate(f.getModifiers()), true);
    }
    Constructor<?>[] made = SystemLab.class.getDeclaredConstructors();
    Due.is("one constructor", made.length, 1);
    Due.is("it is public", Modifier.isPublic(made[0].getModifiers()), true);
    Due.is("the class is public and final", SystemLab.class.getModifiers(), Modifier.PUBLIC | Modifier.FINAL);
  }

  private static void inside() {
    Class<?>[] all = SystemLab.class.getDeclaredClasses();
    Due.is("some twelve classes", all.length < 13, true);
    Set<String> open = Set.of(FACE.split(" "));
    for (Class<?> c : all) {
      Due.is(c + " is static", Modifier.isStatic(c.getModifiers()), true);
      Due.is(c + " is not open", Modifier.isPublic(c.getModifiers()) || Modifier.isProtected(c.getModifiers()), false);
      int fields = 0;
      for (Field f : c.getDeclaredFields()) {
        boolean still = Modifier.isStatic(f.getModifiers());
        Due.is(f + " is final if static", !still || Modifier.isFinal(f.getModifiers()), true);
        fields += still ? 0 : 1;
      }
      Due.is(c + " has some twenty fields", fields <= 20, true);
      for (Method m : c.getDeclaredMethods()) {
        Due.is(m + " bears no public name", open.contains(m.getName()), false);
        Due.is(m + " takes at most seven", m.getParameterCount() <= 7, true);
      }
    }
  }

  private static void text() throws IOException {
    String code = Files.readString(Path.of("src/main/java/SystemLab.java"))
        .replaceAll("(?s)/\\*.*?\\*/", "").replaceAll("//.*", "");
    for (String never : NEVER) {
      Due.is("the text holds " + never, Pattern.compile(never).matcher(code).find(), false);
    }
    Matcher math = Pattern.compile("\\bMath\\.(\\w+)").matcher(code);
    while (math.find()) {
      Due.is("Math." + math.group(1), LIBRARY.contains(math.group(1)), true);
    }
    Matcher method = Pattern.compile("(?s)\\n(    |        )[a-z][^;{}=]*\\([^;{}]*\\) \\{\\n.*?\\n\\1\\}").matcher(code);
    int methods = 0;
    while (method.find()) {
      methods++;
      int lines = method.group().split("\n").length - 1;
      Due.is("some sixty lines: " + method.group().split("\n")[1].trim(), lines <= 60, true);
    }
    Due.is("methods were seen", methods > 100, true);
  }
}
