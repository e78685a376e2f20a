/** Counts the answers that are not as due, for the tests with answers worked out by hand. */
final class Due {
  private static int wrong = 0;
  private static int asked = 0;

  private Due() {
  }

  static void is(String call, long got, long want) {
    asked++;
    if (got != want) {
      wrong++;
      System.out.println(call + " answered " + got + ", due is " + want);
    }
  }

  static void is(String call, boolean got, boolean want) {
    is(call, got ? 1 : 0, want ? 1 : 0);
  }

  static void isNumber(String call, long got, double want) {
    asked++;
    if (got != Double.doubleToRawLongBits(want)) {
      wrong++;
      System.out.println(call + " answered " + got + " (" + Double.longBitsToDouble(got) + "), due is "
          + Double.doubleToRawLongBits(want) + " (" + want + ")");
    }
  }

  static long bits(double d) {
    return Double.doubleToRawLongBits(d);
  }

  /** A new full matrix of these numbers. */
  static int full(SystemLab x, double[][] numbers) {
    int m = x.matrix(0, numbers.length, numbers[0].length, 0, 0);
    for (int i = 0; i < numbers.length; i++) {
      for (int j = 0; j < numbers[i].length; j++) {
        x.put(m, i, j, bits(numbers[i][j]));
      }
    }
    return m;
  }

  /** A new vector of these numbers. */
  static int row(SystemLab x, double... numbers) {
    int v = x.vector(numbers.length);
    for (int i = 0; i < numbers.length; i++) {
      x.set(v, i, bits(numbers[i]));
    }
    return v;
  }

  static void matrixIs(String call, SystemLab x, int m, double[][] want) {
    is(call + " rows", x.shape(m, 1), want.length);
    is(call + " columns", x.shape(m, 2), want[0].length);
    for (int i = 0; i < want.length; i++) {
      for (int j = 0; j < want[i].length; j++) {
        isNumber(call + " at " + i + ", " + j, x.get(m, i, j), want[i][j]);
      }
    }
  }

  static void vectorIs(String call, SystemLab x, int v, double... want) {
    is(call + " size", x.size(v), want.length);
    for (int i = 0; i < want.length; i++) {
      isNumber(call + " at " + i, x.value(v, i), want[i]);
    }
  }

  static void end(String test) {
    System.out.println(test + ": " + asked + " answers, " + wrong + " not as due");
    if (wrong != 0) {
      System.exit(1);
    }
  }
}
