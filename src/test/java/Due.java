import java.lang.reflect.InvocationTargetException;
import java.lang.reflect.Method;
import java.lang.reflect.Modifier;
import java.util.Arrays;
import java.util.Comparator;

/** Counts the answers that are not as due, for the tests with answers worked out by hand. */
final class Due {
  private static int wrong = 0;
  private static int asked = 0;
  private static String test = "";
  private static String words = "";

  private Due() {
  }

  /** The words of the document that the test stands for: a fault is told with them. */
  static void says(String sentence) {
    words = sentence;
  }

  /**
   * Runs every test of a class, so that none can be left out: its static methods without arguments
   * whose names begin with promise or term. Each must say its words and ask something.
   */
  static void runAll(Class<?> tests) {
    Method[] all = tests.getDeclaredMethods();
    Arrays.sort(all, Comparator.comparing(Method::getName));
    int run = 0;
    for (Method m : all) {
      boolean named = m.getName().startsWith("promise") || m.getName().startsWith("term");
      if (named && Modifier.isStatic(m.getModifiers()) && m.getParameterCount() == 0) {
        runOne(m);
        run++;
      }
    }
    is("tests were found", run > 0, true);
    System.out.println(tests.getName() + ": " + run + " tests");
    end(tests.getName());
  }

  private static void runOne(Method m) {
    test = m.getName() + ": ";
    words = "";
    int before = asked;
    m.setAccessible(true);
    try {
      m.invoke(null);
    } catch (InvocationTargetException e) {
      wrong++;
      System.out.println(test + "threw " + e.getCause() + " at " + e.getCause().getStackTrace()[0]);
    } catch (IllegalAccessException e) {
      throw new IllegalStateException(e);
    }
    if (words.isEmpty() || asked == before) {
      wrong++;
      System.out.println(test + "says no words of the document, or asks nothing");
    }
    test = "";
    words = "";
  }

  private static void tell(String fault) {
    wrong++;
    System.out.println(test + fault + (words.isEmpty() ? "" : " [" + words + "]"));
  }

  static void is(String call, long got, long want) {
    asked++;
    if (got != want) {
      tell(call + " answered " + got + ", due is " + want);
    }
  }

  static void is(String call, boolean got, boolean want) {
    is(call, got ? 1 : 0, want ? 1 : 0);
  }

  static void isNumber(String call, long got, double want) {
    asked++;
    if (got != Double.doubleToRawLongBits(want)) {
      tell(call + " answered " + got + " (" + Double.longBitsToDouble(got) + "), due is "
          + Double.doubleToRawLongBits(want) + " (" + want + ")");
    }
  }

  static long bits(double d) {
    return Double.doubleToRawLongBits(d);
  }

  /** A new full matrix of these numbers. */
  static int full(SystemLab x, double[][] numbers) {
    int m = x.matrix(0, numbers.length, numbers[0].length, 0, 0);
    fill(x, m, numbers);
    return m;
  }

  /** Puts these numbers, but no 0s, into a matrix of any FORM. */
  static void fill(SystemLab x, int m, double[][] numbers) {
    for (int i = 0; i < numbers.length; i++) {
      for (int j = 0; j < numbers[i].length; j++) {
        if (bits(numbers[i][j]) != 0) {
          x.put(m, i, j, bits(numbers[i][j]));
        }
      }
    }
  }

  /** A new full matrix of 0s, but for these numbers from the first place of the diagonal on. */
  static int diagonal(SystemLab x, double... numbers) {
    int m = x.matrix(0, numbers.length, numbers.length, 0, 0);
    for (int i = 0; i < numbers.length; i++) {
      x.put(m, i, i, bits(numbers[i]));
    }
    return m;
  }

  /** A new full matrix of one number. */
  static int one(SystemLab x, double number) {
    return diagonal(x, number);
  }

  /** A new vector of these numbers. */
  static int row(SystemLab x, double... numbers) {
    int v = x.vector(numbers.length);
    for (int i = 0; i < numbers.length; i++) {
      x.set(v, i, bits(numbers[i]));
    }
    return v;
  }

  /** Makes matrices until there are 24. */
  static void crowdMatrices(SystemLab x) {
    for (int k = x.count(0); k < 24; k++) {
      x.matrix(0, 1, 1, 0, 0);
    }
  }

  /** Makes vectors until there are 24. */
  static void crowdVectors(SystemLab x) {
    for (int k = x.count(2); k < 24; k++) {
      x.vector(1);
    }
  }

  /** Puts these bytes alone on the tape. */
  static void feed(SystemLab x, int[] row) {
    x.end(0);
    for (int at = 0; at < row.length; at += 20) {
      int[] five = five(row, at);
      x.feed(five[0], five[1], five[2], five[3], five[4]);
    }
    x.end(row.length);
  }

  /** Twenty bytes from one on as five numbers, the highest first; 0s where there are no more. */
  static int[] five(int[] row, int at) {
    int[] five = new int[5];
    for (int k = 0; k < 20; k++) {
      five[k / 4] = five[k / 4] << 8 | (at + k < row.length ? row[at + k] : 0);
    }
    return five;
  }

  static void matrixIs(String call, SystemLab x, int m, double[][] want) {
    is(call + " rows", x.shape(m, 1), want.length);
    is(call + " columns", x.shape(m, 2), want[0].length);
    for (int i = 0; i < want.length; i++) {
      for (int j = 0; j < want[i].length; j++) {
        isNumber(call + " at " + i + ", " + j, x.get(m, i, j), want[i][j]);
      }
    }
  }

  static void vectorIs(String call, SystemLab x, int v, double... want) {
    is(call + " size", x.size(v), want.length);
    for (int i = 0; i < want.length; i++) {
      isNumber(call + " at " + i, x.value(v, i), want[i]);
    }
  }

  static void partsAre(String call, SystemLab x, int f, double[][] want) {
    for (int i = 0; i < want.length; i++) {
      for (int j = 0; j < want.length; j++) {
        isNumber(call + " part " + i + ", " + j, x.part(f, i, j), want[i][j]);
      }
    }
  }

  static void orderIs(String call, SystemLab x, int f, int axis, int... want) {
    for (int k = 0; k < want.length; k++) {
      is(call + " order " + axis + ", " + k, x.order(f, axis, k), want[k]);
    }
  }

  static void placesAre(String call, SystemLab x, int... want) {
    for (int k = 0; k < want.length; k++) {
      is(call + " place " + k, x.place(k), want[k]);
    }
    is(call + " place " + want.length, x.place(want.length), -1);
  }

  static void end(String test) {
    System.out.println(test + ": " + asked + " answers, " + wrong + " not as due");
    if (wrong != 0) {
      System.exit(1);
    }
  }
}
