import java.math.BigDecimal;
import java.math.BigInteger;

/** Terms I and II, where they name an end or an edge: numbers, the LATTICE, matrices and their FORMS. */
public final class NumberTermsTest {
  private static final double MAX = Double.MAX_VALUE;
  private static final double MIN = Double.MIN_VALUE;
  private static final double EPS = 0x1p-52;

  public static void main(String[] args) {
    Due.runAll(NumberTermsTest.class);
  }

  // ---- I: rounding

  private static long sum(double a, double b) {
    SystemLab x = new SystemLab();
    return x.get(x.sum(Due.one(x, a), Due.one(x, b)), 0, 0);
  }

  private static long product(double a, double b, boolean fused) {
    SystemLab x = new SystemLab();
    return x.get(x.product(Due.one(x, a), Due.one(x, b), fused), 0, 0);
  }

  /** FUSED(a, b, c), as the second step of a PRODUCT. */
  private static long fused(double a, double b, double c) {
    SystemLab x = new SystemLab();
    int p = Due.full(x, new double[][] {{c, a}});
    int q = Due.full(x, new double[][] {{1}, {b}});
    return x.get(x.product(p, q, true), 0, 0);
  }

  /** a / b, as a part of a plain FACTOR. */
  private static long quotient(double a, double b) {
    SystemLab x = new SystemLab();
    int m = Due.full(x, new double[][] {{b, 0}, {a, 1}});
    return x.part(x.factor(m, 0, false), 1, 0);
  }

  private static long root(double a) {
    SystemLab x = new SystemLab();
    return x.part(x.factor(Due.one(x, a), 3, false), 0, 0);
  }

  private static void termI_sumToTheNearest() {
    Due.says("to the nearest");
    Due.isNumber("1 + a little above half a step", sum(1, Math.nextUp(0x1p-53)), 1 + EPS);
    Due.isNumber("1 + a little below half a step", sum(1, Math.nextDown(0x1p-53)), 1);
    Due.isNumber("1 - a little above half a step", sum(1, -Math.nextUp(0x1p-54)), 1 - 0x1p-53);
    Due.isNumber("1 - the least number", sum(1, -MIN), 1);
    Due.isNumber("0.1 + 0.2", sum(0.1, 0.2), 0x1.3333333333334p-2);
    Due.isNumber("below all normal numbers, exact", sum(Double.MIN_NORMAL, -MIN), 0x0.fffffffffffffp-1022);
  }

  private static void termI_sumOfTwoAsNearTheEvenOne() {
    Due.says("of two as near the even one");
    Due.isNumber("1 + half a step", sum(1, 0x1p-53), 1);
    Due.isNumber("1 + a step + half a step", sum(1 + EPS, 0x1p-53), 1 + 2 * EPS);
    Due.isNumber("-1 - half a step", sum(-1, -0x1p-53), -1);
    Due.isNumber("1 - half a step below it", sum(1, -0x1p-54), 1);
    Due.isNumber("up to the next power of 2", sum(2 - EPS, 0x1p-53), 2);
  }

  private static void termI_productOfTwoAsNearTheEvenOne() {
    Due.says("of two as near the even one");
    for (boolean fused : new boolean[] {false, true}) {
      Due.isNumber("down", product(0x1p26 + 1, 0x1p27 + 1, fused), 0x1p53 + 0x1p27 + 0x1p26);
      Due.isNumber("up", product(1.5, 1 + EPS, fused), 1.5 + 2 * EPS);
      Due.isNumber("half of the least number", product(MIN, 0.5, fused), 0);
      Due.isNumber("a half above it", product(MIN, 1.5, fused), 2 * MIN);
      Due.isNumber("a little above the half of it", product(MIN, Math.nextUp(0.5), fused), MIN);
    }
  }

  private static void termI_quotientRounded() {
    Due.says("+ - * / and roots are ROUNDED: to the nearest, of two as near the even one");
    Due.isNumber("1 / 3", quotient(1, 3), 0x1.5555555555555p-2);
    Due.isNumber("2 / 3, up", quotient(2, 3), 0x1.5555555555555p-1);
    Due.isNumber("1 / 49", quotient(1, 49), 1.0 / 49);
    Due.isNumber("5 / 3, up", quotient(5, 3), 0x1.aaaaaaaaaaaabp0);
    Due.isNumber("as near: 0", quotient(MIN, 2), 0);
    Due.isNumber("as near: 2", quotient(3 * MIN, 2), 2 * MIN);
    Due.isNumber("nearer to the least", quotient(2 * MIN, 3), MIN);
    Due.isNumber("exact", quotient(MAX, 4), MAX / 4);
  }

  private static void termI_rootRounded() {
    Due.says("+ - * / and roots are ROUNDED: to the nearest");
    Due.isNumber("root of 2", root(2), 0x1.6a09e667f3bcdp0);
    Due.isNumber("root of 3", root(3), 0x1.bb67ae8584caap0);
    Due.isNumber("root of the next above 1", root(1 + EPS), 1);
    Due.isNumber("root of two above 1", root(1 + 2 * EPS), 1 + EPS);
    Due.isNumber("root of the next below 1", root(1 - EPS / 2), 1 - EPS / 2);
    Due.isNumber("root of the least", root(MIN), 0x1p-537);
    Due.isNumber("root of the greatest", root(MAX), 0x1.fffffffffffffp511);
    Due.isNumber("root of 9, exact", root(9), 3);
  }

  private static void termI_halfAStepAboveAllDoublesIsNotFinite() {
    Due.says("All numbers of matrices and vectors are finite");
    Due.isNumber("a little below half a step above the greatest", sum(MAX, Math.nextDown(0x1p970)), MAX);
    Due.is("half a step above it: nothing was made", sum(MAX, 0x1p970), -1);
    Due.is("below all", sum(-MAX, -0x1p970), -1);
    Due.isNumber("product, just finite", product(MAX, 1, false), MAX);
    Due.is("product, not finite", product(MAX, 1 + EPS, false), -1);
    Due.is("fused, not finite", fused(1, 0x1p970, MAX), -1);
    Due.isNumber("fused, just finite", fused(1, Math.nextDown(0x1p970), MAX), MAX);
  }

  private static void termI_fusedIsRoundedOnce() {
    Due.says("FUSED(a, b, c) is a * b + c, rounded once");
    double e = 1 + 0x1p-30;
    Due.isNumber("what a rounded product loses", fused(e, e, -(1 + 0x1p-29)), 0x1p-60);
    Due.isNumber("a product beyond all doubles", fused(2, MAX, -MAX), MAX);
    Due.isNumber("a product below all doubles", fused(MIN, MIN, 1), 1);
    Due.isNumber("above as near, by what is below all doubles", fused(MIN, MIN, 1.5 * 0x1p-1021), 1.5 * 0x1p-1021);
    Due.isNumber("as near", fused(0.5, 0x1p-52, 1), 1);
  }

  private static void termI_fusedAProductALittleBesideHalfAStep() {
    Due.says("FUSED(a, b, c) is a * b + c, rounded once");
    // (1 + 2^-25 + 2^-51) * (1 - 2^-25 + 2^-51) is 1 + 2^-102
    double a = 1 + 0x1p-25 + 0x1p-51;
    double b = 1 - 0x1p-25 + 0x1p-51;
    for (int e = -900; e <= 900; e += 50) {
      double one = Math.scalb(1.0, e);
      Due.isNumber("a little above it, at " + e, fused(a, b * Math.scalb(1.0, e - 53), one), one + Math.ulp(one));
      Due.isNumber("below 0, at " + e, fused(-a, b * Math.scalb(1.0, e - 53), -one), -one - Math.ulp(one));
      Due.isNumber("a little more than it away, at " + e, fused(-a, b * Math.scalb(1.0, e - 54), one),
          Math.nextDown(one));
      double odd = one + Math.ulp(one);
      Due.isNumber("a little less than it, at " + e,
          fused(1 + EPS, (1 - EPS) * Math.scalb(1.0, e - 53), odd), odd);
    }
    for (int e = -1074; e <= -1024; e++) {
      double one = Math.scalb(1.0, e) * 2;
      Due.isNumber("below all normal numbers, at " + e, fused(a * 0x1p-537, b * 0x1p-538, one), one + MIN);
    }
  }

  private static void termI_fusedAProductAsNearAndALittleMore() {
    Due.says("FUSED(a, b, c) is a * b + c, rounded once");
    double a = 0x1p26 + 1;
    double b = 0x1p27 + 1;
    double below = 0x1p53 + 0x1p27 + 0x1p26;
    Due.isNumber("as near: the even one", fused(a, b, 0), below);
    for (int e = 0; e >= -1074; e--) {
      double c = Math.scalb(1.0, e);
      Due.isNumber("and 2^" + e, fused(a, b, c), below + 2);
      Due.isNumber("less 2^" + e, fused(a, b, -c), below);
      Due.isNumber("below 0, less 2^" + e, fused(-a, b, -c), -below - 2);
    }
    double odd = 3 * (0x1p52 + 1);
    Due.isNumber("as near: the even one is above", fused(3, 0x1p52 + 1, 0), odd + 1);
    for (int e = -1; e >= -1074; e--) {
      double c = Math.scalb(1.0, e);
      Due.isNumber("odd, and 2^" + e, fused(3, 0x1p52 + 1, c), 0x1.8000000000002p53);
      Due.isNumber("odd, less 2^" + e, fused(3, 0x1p52 + 1, -c), 0x1.8000000000001p53);
    }
  }

  private static void termI_fusedWhatIsLeftOfADifferenceIsRounded() {
    Due.says("FUSED(a, b, c) is a * b + c, rounded once");
    double a = 0x1p53 - 1;
    Due.isNumber("2^53 + 1", fused(a, a, -0x1p53 * (0x1p53 - 3)), 0x1p53);
    Due.isNumber("2^53 + 3", fused(a, a - 2, -0x1p53 * (0x1p53 - 5)), 0x1p53 + 4);
    Due.isNumber("1", fused(a, a, -0x1p54 * (0x1p52 - 1)), 1);
    Due.isNumber("0", fused(a, 1, -a), 0);
    double b = 0x1p26 + 1;
    Due.isNumber("half of the least: the even one", fused(b * 0x1p-537, b * 0x1p-538, -(0x1p51 + 0x1p26) * MIN), 0);
    double h = 0x1p31 + 1;
    Due.isNumber("half of the least, of more bits", fused(h * 0x1p-537, h * 0x1p-538, -(0x1p61 + 0x1p31) * MIN), 0);
    Due.isNumber("a half more than 1 of it", fused(3 * 0x1p-537, 0x1p-538, 0), 2 * MIN);
    Due.isNumber("a half more than 2 of it", fused(b * 0x1p-537, b * 0x1p-538, -(0x1p51 + 0x1p26 - 2) * MIN), 2 * MIN);
  }

  private static void termI_fusedWhereCMakesItAsNear() {
    Due.says("FUSED(a, b, c) is a * b + c, rounded once");
    for (int k = 1; k < 60; k++) {
      double a = 0x1p26 + k;
      double b = 0x1p53 - 3 * k;
      BigInteger exact = new BigDecimal(a).toBigInteger()
          .multiply(new BigDecimal(b).toBigInteger());
      int low = exact.bitLength() - 54;
      BigInteger half = exact.shiftRight(low).setBit(0).shiftLeft(low);
      double c = half.subtract(exact).doubleValue();
      double even = half.testBit(low + 1) ? half.add(BigInteger.ONE.shiftLeft(low)).doubleValue()
          : half.subtract(BigInteger.ONE.shiftLeft(low)).doubleValue();
      Due.isNumber("as near by " + c, fused(a, b, c), even);
      Due.isNumber("below 0", fused(-a, b, -c), -even);
      Due.isNumber("a little above", fused(a, b, c + 1), half.add(BigInteger.ONE).doubleValue());
      Due.isNumber("a little below", fused(a, b, c - 1), half.subtract(BigInteger.ONE).doubleValue());
    }
  }

  /** The GREATEST of a residual, of a matrix of one row: r is 0. */
  private static long up(double... terms) {
    SystemLab x = new SystemLab();
    int m = x.matrix(0, 1, terms.length, 0, 0);
    int s = x.vector(terms.length);
    for (int j = 0; j < terms.length; j++) {
      x.put(m, 0, j, Due.bits(1));
      x.set(s, j, Due.bits(-terms[j]));
    }
    return x.greatest(m, s, x.vector(1));
  }

  private static void termI_upOfADoubleIsItself() {
    Due.says("UP of an exact number is the least double not below it");
    Due.isNumber("1", up(1), 1);
    Due.isNumber("the next below 1", up(1, -0x1p-53), 1 - 0x1p-53);
    Due.isNumber("0", up(1, -1), 0);
    Due.isNumber("the least", up(MIN), MIN);
    Due.isNumber("the greatest", up(MAX), MAX);
  }

  private static void termI_upOfWhatIsBetweenTwoDoublesIsTheUpper() {
    Due.says("the least double not below it");
    Due.isNumber("a little above 1", up(1, MIN), 1 + EPS);
    Due.isNumber("a little below the next", up(1 + EPS, -MIN), 1 + EPS);
    Due.isNumber("a little below 1", up(1, -MIN), 1);
    Due.isNumber("a little below 2", up(2, -0x1p-53), 2);
    SystemLab x = new SystemLab();
    int m = Due.one(x, MIN);
    Due.isNumber("below all doubles", x.greatest(m, Due.row(x, MIN), x.vector(1)), MIN);
    Due.is("a little above the greatest is not finite", up(MAX, MIN), -1);
  }

  // ---- I: -0

  private static void termI_minusZeroThatIsPutBecomes0() {
    Due.says("none is -0: whatever comes to one, -0 becomes 0");
    SystemLab x = new SystemLab();
    int m = Due.one(x, 5);
    Due.is("put", x.put(m, 0, 0, Due.bits(-0.0)), true);
    Due.isNumber("get", x.get(m, 0, 0), 0);
    int v = Due.row(x, 5);
    Due.is("set", x.set(v, 0, Due.bits(-0.0)), true);
    Due.isNumber("value", x.value(v, 0), 0);
  }

  private static void termI_minusZeroOfAProductBecomes0() {
    Due.says("whatever comes to one, -0 becomes 0");
    Due.isNumber("a product below all doubles, under 0", product(-MIN, MIN, false), 0);
    Due.isNumber("fused", product(-MIN, MIN, true), 0);
    Due.isNumber("a sum of one and its opposite", sum(-3, 3), 0);
  }

  private static void termI_minusZeroOfASolutionBecomes0() {
    Due.says("whatever comes to one, -0 becomes 0");
    SystemLab x = new SystemLab();
    int m = Due.diagonal(x, -3, 4);
    int f = x.factor(m, 0, false);
    Due.vectorIs("solve", x, x.solve(f, Due.row(x, 0, 0)), 0, 0);
    Due.matrixIs("inverse", x, x.inverse(f), new double[][] {{-1.0 / 3, 0}, {0, 0.25}});
    Due.vectorIs("exactly", x, x.exactly(m, Due.row(x, 0, 1)) - 2, 0, 0.25);
    int wide = Due.full(x, new double[][] {{-2, 0, 0}, {0, 3, 0}});
    Due.vectorIs("nullVector", x, x.nullVector(wide, 0), 0, 0, 1);
    int far = Due.one(x, MAX);
    Due.vectorIs("a quotient below all doubles", x, x.solve(x.factor(far, 0, true), Due.row(x, -MIN)), 0);
  }

  private static void termI_minusZeroStaysInFactors() {
    Due.says("(not on the way to it, nor in FACTORS)");
    SystemLab x = new SystemLab();
    int m = Due.full(x, new double[][] {{-2, 1}, {0, 3}});
    for (int method = 0; method < 2; method++) {
      Due.isNumber("0 / -2", x.part(x.factor(m, method, false), 1, 0), -0.0);
    }
    int r = Due.full(x, new double[][] {{MAX, 0}, {-MIN, 1}});
    Due.isNumber("-MIN / root of MAX", x.part(x.factor(r, 3, false), 1, 0), -0.0);
    int w = Due.full(x, new double[][] {{1, 0.25}, {0x1p-1074, 0}, });
    Due.is("FUSED to -0, where the factor fails", x.factor(w, 0, true), -3);
    int t = Due.full(x, new double[][] {{1, 0.25, 0}, {MIN, 0, 1}, {0, 1, 0}});
    Due.isNumber("a multiple below all doubles", x.part(x.factor(t, 1, true), 2, 1), -0.0);
  }

  // ---- I: the LATTICE

  private static void latticeIs(double d, int want) {
    SystemLab x = new SystemLab();
    Due.is(d + ": shape 6", x.shape(Due.one(x, d), 6), want);
    Due.is(d + ": shape 6, below 0", x.shape(Due.one(x, -d), 6), want);
    Due.is(d + ": rank", x.rank(0), want == 0 ? -1 : d == 0 ? 0 : 1);
    int r = Due.row(x, d);
    int three = Due.one(x, 3);
    Due.is(d + ": as a vector", x.exactly(three, r) >= 2, want == 1);
  }

  private static void termI_latticeNotAbove2To40() {
    Due.says("A number is on the LATTICE if it is not above 2^40 without sign");
    latticeIs(0x1p40, 1);
    latticeIs(Math.nextDown(0x1p40), 1);
    latticeIs(Math.nextUp(0x1p40), 0);
    latticeIs(0x1p40 + 1, 0);
    latticeIs(0x1p41, 0);
    latticeIs(MAX, 0);
  }

  private static void termI_latticeMultiplesOf2ToMinus60() {
    Due.says("and a whole multiple of 2^-60");
    latticeIs(0, 1);
    latticeIs(0x1p-60, 1);
    latticeIs(0x1.8p-59, 1);
    latticeIs(0x1p-61, 0);
    latticeIs(0x1.8p-60, 0);
    latticeIs(1 + EPS, 1);
    latticeIs(0x1.0000000000001p-8, 1);
    latticeIs(0x1.0000000000001p-9, 0);
    latticeIs(0x1.0000000000002p-9, 1);
    latticeIs(Double.MIN_NORMAL, 0);
    latticeIs(MIN, 0);
  }

  private static void termI_latticeIfAllNumbersOfAMatrixAre() {
    Due.says("a matrix or vector if all of its numbers are");
    for (int i = 0; i < 8; i++) {
      for (int j = 0; j < 8; j++) {
        SystemLab x = new SystemLab();
        int m = x.matrix(0, 8, 8, 0, 0);
        x.put(m, i, j, Due.bits(0x1p-61));
        Due.is("off at " + i + ", " + j, x.shape(m, 6), 0);
        x.put(m, i, j, Due.bits(0x1p-60));
        Due.is("on at " + i + ", " + j, x.shape(m, 6), 1);
      }
    }
  }

  private static void termI_latticeIfAllNumbersOfAVectorAre() {
    Due.says("a matrix or vector if all of its numbers are");
    SystemLab x = new SystemLab();
    int m = Due.diagonal(x, 1, 1, 1, 1, 1, 1, 1, 1);
    int r = x.vector(8);
    for (int i = 0; i < 8; i++) {
      x.set(r, i, Due.bits(0x1p-61));
      Due.is("off at " + i, x.exactly(m, r), -1);
      x.set(r, i, Due.bits(0x1p-60));
    }
    Due.is("all on", x.exactly(m, r), 3);
  }

  // ---- II: matrices and FORMS

  private static void termII_matrices0To23() {
    Due.says("MATRICES 0 .. 23");
    SystemLab x = new SystemLab();
    for (int k = 0; k < 24; k++) {
      Due.is("matrix", x.matrix(0, 1, 1, 0, 0), k);
    }
    Due.is("the last is there", x.get(23, 0, 0), 0);
    Due.is("none beyond", x.get(24, 0, 0), -1);
    Due.is("none ahead", x.get(-1, 0, 0), -1);
    Due.is("no 25th", x.matrix(0, 1, 1, 0, 0), -1);
  }

  private static void termII_of1To8RowsAndColumns() {
    Due.says("of 1 to 8 rows and columns (from 0 on)");
    SystemLab x = new SystemLab();
    for (int form : new int[] {0, 3, 4}) {
      int a = form == 4 ? 1 : 0;
      for (int[] size : new int[][] {{1, 1}, {1, 8}, {8, 1}, {8, 8}}) {
        int m = x.matrix(form, size[0], size[1], a, a);
        Due.is("last place", x.put(m, size[0] - 1, size[1] - 1, Due.bits(3)), true);
        Due.is("beyond the rows", x.put(m, size[0], 0, Due.bits(3)), false);
        Due.is("beyond the columns", x.put(m, 0, size[1], Due.bits(3)), false);
        Due.is("from 0 on", x.put(m, 0, 0, Due.bits(4)), true);
        Due.is("not from -1 on", x.put(m, -1, -1, Due.bits(4)), false);
      }
      for (int[] size : new int[][] {{0, 1}, {1, 0}, {0, 0}, {9, 1}, {1, 9}, {9, 9}, {-1, 1}, {1, -1}, {-8, -8}}) {
        Due.is("FORM " + form + " of " + size[0] + ", " + size[1], x.matrix(form, size[0], size[1], a, a), -1);
      }
    }
  }

  private static void placesAre(SystemLab x, int m, int form, int n, int a, int b) {
    for (int i = 0; i < n; i++) {
      for (int j = 0; j < n; j++) {
        boolean has = form == 1 ? j <= i : form != 2 || i - j <= a && j - i <= b;
        Due.is("FORM " + form + " " + a + " " + b + " at " + i + ", " + j, x.put(m, i, j, Due.bits(0.5)), has);
        Due.isNumber("its number", x.get(m, i, j), has ? 0.5 : 0);
      }
    }
  }

  private static void termII_fullHasAllPlaces() {
    Due.says("0 FULL");
    SystemLab x = new SystemLab();
    placesAre(x, x.matrix(0, 8, 8, 0, 0), 0, 8, 0, 0);
  }

  private static void termII_lowerHasPlacesNotAboveTheDiagonal() {
    Due.says("1 LOWER, as many rows as columns: places i, j with j not above i");
    SystemLab x = new SystemLab();
    placesAre(x, x.matrix(1, 8, 8, 0, 0), 1, 8, 0, 0);
    Due.is("more rows", x.matrix(1, 3, 2, 0, 0), -1);
    Due.is("more columns", x.matrix(1, 2, 3, 0, 0), -1);
  }

  private static void termII_bandHasPlacesAboutTheDiagonal() {
    Due.says("places with i - j not above a, j - i not above b");
    for (int[] ab : new int[][] {{0, 0}, {7, 7}, {0, 7}, {7, 0}, {2, 1}, {1, 6}}) {
      SystemLab x = new SystemLab();
      placesAre(x, x.matrix(2, 8, 8, ab[0], ab[1]), 2, 8, ab[0], ab[1]);
      Due.is("of less rows", x.matrix(2, 3, 3, ab[0], ab[1]), 1);
      placesAre(x, 1, 2, 3, ab[0], ab[1]);
    }
  }

  private static void termII_bandIsSquareWithAAndB0To7() {
    Due.says("2 BAND, as many rows as columns, with a, b 0 .. 7");
    SystemLab x = new SystemLab();
    Due.is("7, 7", x.matrix(2, 8, 8, 7, 7), 0);
    Due.is("7, 7 of one row", x.matrix(2, 1, 1, 7, 7), 1);
    Due.is("0, 0", x.matrix(2, 8, 8, 0, 0), 2);
    Due.is("a 8", x.matrix(2, 8, 8, 8, 0), -1);
    Due.is("b 8", x.matrix(2, 8, 8, 0, 8), -1);
    Due.is("a -1", x.matrix(2, 8, 8, -1, 0), -1);
    Due.is("b -1", x.matrix(2, 8, 8, 0, -1), -1);
    Due.is("more rows", x.matrix(2, 8, 7, 1, 1), -1);
    Due.is("more columns", x.matrix(2, 7, 8, 1, 1), -1);
  }

  private static void termII_sparseHasAtMost20Numbers() {
    Due.says("3 SPARSE: all places, but at most 20 numbers that are not 0");
    SystemLab x = new SystemLab();
    int m = x.matrix(3, 8, 8, 0, 0);
    for (int k = 0; k < 20; k++) {
      Due.is("number " + k, x.put(m, 7 - k / 4, k % 4 * 2, Due.bits(k + 1)), true);
    }
    Due.is("20 of them", x.shape(m, 5), 20);
    Due.is("the 21st", x.put(m, 0, 7, Due.bits(MIN)), false);
    Due.is("the 21st is not there", x.get(m, 0, 7), 0);
  }

  private static void termII_sparseHasAllPlaces() {
    Due.says("3 SPARSE: all places");
    SystemLab x = new SystemLab();
    int m = x.matrix(3, 8, 8, 0, 0);
    for (int k = 0; k < 64; k++) {
      Due.is("place " + k, x.put(m, k / 8, k % 8, Due.bits(1)), true);
      Due.is("and 0 again", x.put(m, k / 8, k % 8, 0), true);
    }
  }

  private static void termII_blocksDivideRowsAndColumns() {
    Due.says("4 BLOCKS: all places; a divides the rows, b the columns");
    for (int n = 1; n <= 8; n++) {
      for (int d = -1; d <= 9; d++) {
        SystemLab x = new SystemLab();
        boolean divides = d > 0 && n % d == 0;
        Due.is("a " + d + " of " + n + " rows", x.matrix(4, n, 5, d, 5), divides ? 0 : -1);
        Due.is("b " + d + " of " + n + " columns", x.matrix(4, 5, n, 1, d), divides ? 1 : -1);
      }
    }
    SystemLab x = new SystemLab();
    placesAre(x, x.matrix(4, 8, 8, 4, 2), 4, 8, 0, 0);
  }

  private static void termII_placesThatAFormHasNotAre0() {
    Due.says("Places that a FORM has not are 0");
    SystemLab x = new SystemLab();
    int low = x.matrix(1, 2, 2, 0, 0);
    int band = x.matrix(2, 2, 2, 0, 1);
    Due.fill(x, low, new double[][] {{2, 9}, {3, 4}});
    Due.fill(x, band, new double[][] {{5, 6}, {9, 7}});
    Due.matrixIs("LOWER", x, low, new double[][] {{2, 0}, {3, 4}});
    Due.matrixIs("BAND", x, band, new double[][] {{5, 6}, {0, 7}});
    Due.matrixIs("in a SUM", x, x.sum(low, band), new double[][] {{7, 6}, {3, 11}});
    Due.matrixIs("in a PRODUCT", x, x.product(low, band, false), new double[][] {{10, 12}, {15, 46}});
    Due.isNumber("in a determinant", x.determinant(band), 35);
    Due.partsAre("in a FACTOR", x, x.factor(band, 0, false), new double[][] {{5, 6}, {0, 7}});
  }

  private static void termII_aAndBMustBe0ForOtherForms() {
    Due.says("(a and b must be 0 for other FORMS.)");
    for (int form : new int[] {0, 1, 3}) {
      SystemLab x = new SystemLab();
      Due.is("FORM " + form + " with a 1", x.matrix(form, 2, 2, 1, 0), -1);
      Due.is("FORM " + form + " with b 1", x.matrix(form, 2, 2, 0, 1), -1);
      Due.is("FORM " + form + " with a -1", x.matrix(form, 2, 2, -1, 0), -1);
      Due.is("FORM " + form + " with both", x.matrix(form, 2, 2, 2, 2), -1);
      Due.is("FORM " + form + " with 0s", x.matrix(form, 2, 2, 0, 0), 0);
    }
  }

  private static void termII_leastFreeNumberOfMatrices() {
    Due.says("What is made anew gets the least number that is free");
    SystemLab x = new SystemLab();
    int m = Due.one(x, 2);
    int f = x.factor(m, 0, false);
    x.pack(m);
    for (int k = 1; k < 5; k++) {
      x.matrix(0, 1, 1, 0, 0);
    }
    x.drop(3);
    x.drop(1);
    Due.is("sum", x.sum(m, m), 1);
    Due.is("then the next free", x.sum(m, m), 3);
    Due.is("then behind all", x.sum(m, m), 5);
    for (int call = 0; call < 8; call++) {
      x.drop(3);
      x.drop(1);
      Due.is("call " + call, makeBy(x, call, m, f), 1);
      Due.is("call " + call + ", then the next free", makeBy(x, call, m, f), 3);
    }
  }

  private static int makeBy(SystemLab x, int call, int m, int f) {
    x.take();
    switch (call) {
      case 0:
        return x.matrix(0, 1, 1, 0, 0);
      case 1:
        return x.product(m, m, false);
      case 2:
        return x.transpose(m);
      case 3:
        return x.formed(m, 1, 0, 0);
      case 4:
        return x.block(m, 0, 0, 1, 1);
      case 5:
        return x.inverse(f);
      case 6:
        return x.reorder(m);
      default:
        return x.unpack();
    }
  }

  private static void termII_leastFreeNumberOfFactorsAndVectors() {
    Due.says("What is made anew gets the least number that is free");
    SystemLab x = new SystemLab();
    int m = Due.full(x, new double[][] {{2, 0}, {0, 0}});
    int one = Due.one(x, 2);
    for (int k = 0; k < 4; k++) {
      x.factor(one, 0, false);
      x.vector(1);
    }
    x.vector(1);
    x.release(2);
    x.release(1);
    Due.is("factor", x.factor(one, 3, true), 1);
    Due.is("factor, the next", x.factor(one, 3, true), 2);
    Due.is("factor, behind all", x.factor(one, 3, true), 4);
    for (int call = 0; call < 4; call++) {
      x.forget(3);
      x.forget(1);
      for (int due = 1; due < 4; due += 2) {
        int made = call == 0 ? x.vector(3) : call == 1 ? x.solve(0, 0) : call == 2 ? x.exactly(one, 0) - 2
            : x.nullVector(m, 0);
        Due.is("vector by call " + call, made, due);
      }
    }
  }

  private static void termII_isFullWhereNothingElseIsSaid() {
    Due.says("and is FULL where nothing else is said");
    for (int form = 1; form < 5; form++) {
      SystemLab x = new SystemLab();
      int m = x.matrix(form, 2, 2, form == 2 ? 1 : form == 4 ? 2 : 0, form == 4 ? 1 : 0);
      Due.fill(x, m, new double[][] {{2, 0}, {1, 4}});
      int f = x.factor(m, 0, false);
      int[] made = {x.sum(m, m), x.product(m, m, true), x.transpose(m), x.block(m, 0, 0, 2, 2), x.inverse(f),
        x.reorder(m)};
      for (int k = 0; k < made.length; k++) {
        Due.is("of FORM " + form + ", call " + k, made[k], k + 1);
        for (int what : new int[] {0, 3, 4}) {
          Due.is("of FORM " + form + ", call " + k + ": shape " + what, x.shape(made[k], what), 0);
        }
      }
    }
  }

  private static void termII_productFrom0OnInOrder() {
    Due.says("PRODUCT: each number, with s = 0 first, for k from 0 on");
    SystemLab x = new SystemLab();
    int ones = Due.full(x, new double[][] {{1}, {1}, {1}});
    for (boolean fused : new boolean[] {false, true}) {
      int last = Due.full(x, new double[][] {{0x1p53, 1, 1}});
      Due.isNumber("the great one first", x.get(x.product(last, ones, fused), 0, 0), 0x1p53);
      int first = Due.full(x, new double[][] {{1, 1, 0x1p53}});
      Due.isNumber("the great one last", x.get(x.product(first, ones, fused), 0, 0), 0x1p53 + 2);
    }
  }
}
