import java.util.Random;

/**
 * Each step rounded: sums, products, quotients, roots and fused steps of the class beside the
 * machine's own, on numbers near ties, near one another, subnormal and beyond all doubles.
 */
public final class ArithmeticTest {
  private static final Random RANDOM = new Random(20261119);
  private static SystemLab x = new SystemLab();

  public static void main(String[] args) {
    int rounds = args.length > 0 ? Integer.parseInt(args[0]) : 4000;
    for (int k = 0; k < rounds; k++) {
      x = new SystemLab();
      sums();
      products();
      quotients();
      roots();
      fused();
    }
    Due.end("ArithmeticTest");
  }

  private static double number() {
    long bits = RANDOM.nextLong();
    switch (RANDOM.nextInt(7)) {
      case 0:
        return finite(Double.longBitsToDouble(bits));
      case 1:
        return finite(Double.longBitsToDouble(bits & ~0L << RANDOM.nextInt(53)));
      case 2:
        return finite(Double.longBitsToDouble(bits | ~(~0L << RANDOM.nextInt(53))));
      case 3:
        return Double.longBitsToDouble(bits >>> 12 + RANDOM.nextInt(52));
      case 4:
        return RANDOM.nextDouble() * 4 - 2;
      case 5:
        return RANDOM.nextInt(65) - 32;
      default:
        return (RANDOM.nextBoolean() ? 1 : -1) * Math.scalb(1 + RANDOM.nextInt(4) * 0x1p-52, RANDOM.nextInt(200) - 100);
    }
  }

  private static double finite(double d) {
    return Double.isNaN(d) || Double.isInfinite(d) ? 1.5 : d;
  }

  /** A number that stands close to what makes the sum with d small, or a tie. */
  private static double near(double d) {
    switch (RANDOM.nextInt(5)) {
      case 0:
        return finite(-d);
      case 1:
        return finite(-Math.nextUp(d));
      case 2:
        return finite(Math.ulp(finite(d)) / 2 * (RANDOM.nextInt(5) - 2));
      case 3:
        return finite(-d * (1 + (RANDOM.nextInt(9) - 4) * 0x1p-52));
      default:
        return finite(Math.scalb(number(), -52));
    }
  }

  private static void due(String call, int m, int i, int j, double want) {
    Due.isNumber(call, x.get(m, i, j), want == 0 ? 0.0 : want);
  }

  private static int matrix(double... row) {
    int m = x.matrix(0, 1, row.length, 0, 0);
    for (int j = 0; j < row.length; j++) {
      x.put(m, 0, j, Due.bits(row[j]));
    }
    return m;
  }

  private static void sums() {
    double a = number();
    double b = RANDOM.nextBoolean() ? near(a) : number();
    int p = matrix(a);
    int q = matrix(b);
    int s = x.sum(p, q);
    if (Double.isInfinite(a + b)) {
      Due.is(a + " + " + b, s, -1);
    } else {
      due(a + " + " + b, s, 0, 0, a + b);
      x.drop(s);
    }
    x.drop(p);
    x.drop(q);
  }

  private static void products() {
    double a = number();
    double b = number();
    int p = matrix(a);
    int q = matrix(b);
    int s = x.product(p, q, false);
    if (Double.isInfinite(a * b)) {
      Due.is(a + " * " + b, s, -1);
    } else {
      due(a + " * " + b, s, 0, 0, a * b);
      x.drop(s);
    }
    x.drop(p);
    x.drop(q);
  }

  private static void quotients() {
    double a = number();
    double b = number();
    if (b == 0) {
      return;
    }
    int m = x.matrix(0, 2, 2, 0, 0);
    x.put(m, 0, 0, Due.bits(b));
    x.put(m, 1, 0, Due.bits(a));
    x.put(m, 1, 1, Due.bits(1));
    int f = x.factor(m, 0, false);
    double q = (a == 0 ? 0.0 : a) / b;
    if (Double.isInfinite(q)) {
      Due.is(a + " / " + b, f, -2);
    } else {
      Due.isNumber(a + " / " + b, x.part(f, 1, 0), q);
      x.release(f);
    }
    x.drop(m);
  }

  private static void roots() {
    double a = Math.abs(number());
    double near = Math.sqrt(a) * Math.sqrt(a);
    double r = RANDOM.nextBoolean() ? finite(Math.nextUp(near)) : a;
    if (r == 0) {
      return;
    }
    int m = matrix(r);
    int f = x.factor(m, 3, false);
    Due.isNumber("root of " + r, x.part(f, 0, 0), Math.sqrt(r));
    x.release(f);
    x.drop(m);
  }

  /** c + a * b, of c * 1 first: the second step is what is looked at. */
  private static void fused() {
    double[] a = new double[8];
    double[] b = new double[8];
    int p = x.matrix(0, 8, 2, 0, 0);
    int q = x.matrix(0, 2, 8, 0, 0);
    double[] c = new double[8];
    int style = RANDOM.nextInt(3);
    for (int i = 0; i < 8; i++) {
      a[i] = number();
      b[i] = number();
      if (style == 1) {
        a[i] = Math.scalb(1 + RANDOM.nextDouble(), RANDOM.nextInt(40) - 530);
        b[i] = Math.scalb(1 + RANDOM.nextDouble(), RANDOM.nextInt(40) - 530);
      }
      double product = finite(a[i] * b[(i + 1) % 8]);
      c[i] = style == 2 ? number() : near(product);
      x.put(p, i, 0, Due.bits(c[i]));
      x.put(p, i, 1, Due.bits(a[i]));
    }
    for (int j = 0; j < 8; j++) {
      b[j] = Math.abs(b[j]) > 0x1p500 ? Math.scalb(b[j], -600) : b[j];
      x.put(q, 0, j, Due.bits(1));
      x.put(q, 1, j, Due.bits(b[j]));
    }
    boolean all = true;
    for (int i = 0; i < 8; i++) {
      for (int j = 0; j < 8; j++) {
        all &= !Double.isInfinite(Math.fma(a[i], b[j], c[i]));
      }
    }
    int s = x.product(p, q, true);
    Due.is("fused is finite", s >= 0, all);
    for (int i = 0; i < 8 && all; i++) {
      for (int j = 0; j < 8; j++) {
        due("fused(" + a[i] + ", " + b[j] + ", " + c[i] + ")", s, i, j, Math.fma(a[i], b[j], c[i]));
      }
    }
  }
}
