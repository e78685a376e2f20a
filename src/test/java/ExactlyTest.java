import java.math.BigInteger;

/** Promises 29 to 38: what systems have exactly, bounds, and orders of lesser width. */
public final class ExactlyTest {
  private static final double MAX = Double.MAX_VALUE;
  private static final double MIN = Double.MIN_VALUE;
  private static final double OFF = 0x1p-61;

  public static void main(String[] args) {
    promise29Exactly();
    promise29Refused();
    promise30Rank();
    promise31NullVector();
    promise32Determinant();
    promise33Digits();
    promise34Condition();
    promise35Gap();
    promise36Bound();
    promise36NotFinite();
    promise37Reorder();
    promise37Stays();
    promise38Place();
    theLargest();
    Due.end("ExactlyTest");
  }

  private static void promise29Exactly() {
    SystemLab x = new SystemLab();
    int m = Due.full(x, new double[][] {{1, 2}, {3, 4}});
    Due.is("one solution", x.exactly(m, Due.row(x, 5, 6)), 3);
    Due.vectorIs("one solution", x, 1, -4, 4.5);
    int s = Due.full(x, new double[][] {{1, 2}, {2, 4}});
    Due.is("none", x.exactly(s, Due.row(x, 1, 3)), 0);
    Due.is("many", x.exactly(s, Due.row(x, 1, 2)), 1);
    int tall = Due.full(x, new double[][] {{0, 3}, {7, 0}, {7, 3}});
    int at = x.exactly(tall, Due.row(x, 1, 1, 2));
    Due.vectorIs("more rows than columns", x, at - 2, 1.0 / 7, 1.0 / 3);
    Due.is("more rows, none", x.exactly(tall, Due.row(x, 1, 1, 2 + 0x1p-51)), 0);
    int wide = Due.full(x, new double[][] {{1, 0, 1}, {0, 1, 1}});
    Due.is("more columns: many", x.exactly(wide, Due.row(x, 1, 2)), 1);
    int zero = x.matrix(0, 2, 2, 0, 0);
    Due.is("zeros: many", x.exactly(zero, Due.row(x, 0, 0)), 1);
    Due.is("zeros: none", x.exactly(zero, Due.row(x, 0, 1)), 0);
    int near = Due.full(x, new double[][] {{1, 1}, {1, 1 + 0x1p-52}});
    at = x.exactly(near, Due.row(x, 1, 1 + 0x1p-50));
    Due.vectorIs("nearly singular", x, at - 2, -3, 4);
    Due.is("a vector of n was made", x.size(at - 2), 2);
  }

  private static void promise29Refused() {
    SystemLab x = new SystemLab();
    int m = Due.full(x, new double[][] {{1, 2}, {3, 4}});
    int r = Due.row(x, 5, 6);
    int wide = Due.full(x, new double[][] {{1, 0, 1}, {0, 1, 1}});
    Due.is("r does not fit", x.exactly(m, Due.row(x, 1)), -1);
    Due.is("of three for two rows", x.exactly(wide, Due.row(x, 1, 1, 1)), -1);
    Due.is("no matrix", x.exactly(2, r), -1);
    Due.is("matrix -1", x.exactly(-1, r), -1);
    Due.is("no vector", x.exactly(m, 23), -1);
    Due.is("vector -1", x.exactly(m, -1), -1);
    Due.is("r is not on the LATTICE", x.exactly(m, Due.row(x, 5, OFF)), -1);
    Due.is("r is too large", x.exactly(m, Due.row(x, 5, Math.nextUp(0x1p40))), -1);
    Due.is("r is just on it", x.exactly(m, Due.row(x, 0x1p40, -0x1p-60)) >= 2, true);
    int off = Due.full(x, new double[][] {{1, 2}, {3, OFF}});
    Due.is("the matrix is not on it", x.exactly(off, r), -1);
    while (x.vector(2) >= 0) {
      Due.is("size", x.size(r), 2);
    }
    Due.is("one, and 24 vectors", x.exactly(m, r), -1);
    Due.is("many, and 24 vectors", x.exactly(wide, r), 1);
    int zero = x.matrix(0, 2, 2, 0, 0);
    Due.is("none, and 24 vectors", x.exactly(zero, r), 0);
  }

  private static void promise30Rank() {
    SystemLab x = new SystemLab();
    double[][][] of = {{{0}}, {{5}}, {{1, 2}, {2, 4}}, {{1, 2}, {2, 4 + 0x1p-50}}, {{0, 0, 1}, {0, 0, 2}},
      {{1, 2, 3}, {4, 5, 6}, {7, 8, 9}}, {{1, 2, 3}, {4, 5, 6}}, {{1, 4}, {2, 5}, {3, 6}}, {{0, 1}, {1, 0}},
      {{0.1, 0.3}, {0.2, 0.6}}, {{0.1, 0.3}, {0.3, 0.9}}};
    int[] rank = {0, 1, 1, 2, 1, 2, 2, 2, 2, 1, 2};
    for (int k = 0; k < of.length; k++) {
      Due.is("rank of matrix " + k, x.rank(Due.full(x, of[k])), rank[k]);
    }
    Due.is("not on the LATTICE", x.rank(Due.full(x, new double[][] {{1, OFF}})), -1);
    Due.is("no matrix", x.rank(20), -1);
    Due.is("matrix -1", x.rank(-1), -1);
    Due.is("matrix 24", x.rank(24), -1);
  }

  private static void promise31NullVector() {
    SystemLab x = new SystemLab();
    int m = Due.full(x, new double[][] {{0, 1, 2, 0, 3}, {0, 2, 4, 7, 8}});
    Due.is("null vector 0", x.nullVector(m, 0), 0);
    Due.vectorIs("null vector 0", x, 0, 1, 0, 0, 0, 0);
    Due.is("null vector 1", x.nullVector(m, 1), 1);
    Due.vectorIs("null vector 1", x, 1, 0, -2, 1, 0, 0);
    Due.is("null vector 2", x.nullVector(m, 2), 2);
    Due.vectorIs("null vector 2", x, 2, 0, -3, 0, -2.0 / 7, 1);
    Due.is("no null vector 3", x.nullVector(m, 3), -1);
    Due.is("no null vector -1", x.nullVector(m, -1), -1);
    int id = Due.full(x, new double[][] {{1, 0}, {0, 1}});
    Due.is("none", x.nullVector(id, 0), -1);
    int third = Due.full(x, new double[][] {{3, 1}});
    Due.vectorIs("rounded", x, x.nullVector(third, 0), -1.0 / 3, 1);
    Due.is("not on the LATTICE", x.nullVector(Due.full(x, new double[][] {{1, OFF}}), 0), -1);
    Due.is("no matrix", x.nullVector(9, 0), -1);
    Due.is("matrix -1", x.nullVector(-1, 0), -1);
    while (x.vector(1) >= 0) {
      Due.is("size", x.size(0), 5);
    }
    Due.is("beside 24", x.nullVector(m, 0), -1);
  }

  private static void promise32Determinant() {
    SystemLab x = new SystemLab();
    double[][][] of = {{{-7}}, {{1, 2}, {3, 4}}, {{0, 1}, {1, 0}}, {{1, 2}, {2, 4}}, {{0, 0, 2}, {3, 0, 0}, {0, 5, 0}},
      {{0.1, 0.2}, {0.3, 0.4}}, {{0x1p40, 0}, {0, -0x1p40}}, {{0x1p-60, 0}, {0, 0x1p-60}}};
    double half = new java.math.BigDecimal(0.1).multiply(new java.math.BigDecimal(0.4))
        .subtract(new java.math.BigDecimal(0.2).multiply(new java.math.BigDecimal(0.3))).doubleValue();
    double[] want = {-7, -2, -1, 0, 30, half, -0x1p80, 0x1p-120};
    for (int k = 0; k < of.length; k++) {
      Due.isNumber("determinant of matrix " + k, x.determinant(Due.full(x, of[k])), want[k]);
    }
    Due.is("not square", x.determinant(Due.full(x, new double[][] {{1, 2}})), -1);
    Due.is("not on the LATTICE", x.determinant(Due.full(x, new double[][] {{OFF}})), -1);
    Due.is("no matrix", x.determinant(23), -1);
    Due.is("matrix -1", x.determinant(-1), -1);
    double tie = 0x1p27 + 1;
    Due.isNumber("a tie to the even", x.determinant(Due.full(x, new double[][] {{0x1p40, 1}, {-1, 0x1p13}})), 0x1p53);
    Due.isNumber("rounded once", x.determinant(Due.full(x, new double[][] {{tie, 0}, {0, tie}})), tie * tie);
  }

  private static void promise33Digits() {
    SystemLab x = new SystemLab();
    int m = Due.full(x, new double[][] {{1, 2}, {3, 4}});
    for (int k = -1; k < 29; k++) {
      Due.is("digits of 2 * 2^120 at " + k, x.digits(m, k), k == 3 ? 1 << 25 : 0);
    }
    int top = x.matrix(0, 8, 8, 0, 0);
    for (int i = 0; i < 8; i++) {
      x.put(top, i, i, Due.bits(i == 0 ? -0x1.fffffffffffffp39 : 0x1p40));
    }
    BigInteger d = BigInteger.ONE.shiftLeft(800).subtract(BigInteger.ONE.shiftLeft(747));
    for (int k = 0; k < 28; k++) {
      Due.is("digits of 2^800 - 2^747 at " + k, x.digits(top, k), d.shiftRight(32 * k).intValue());
    }
    int low = Due.full(x, new double[][] {{0x1p-60 * 0xF00000001L}});
    Due.is("the lowest bits", x.digits(low, 0), 1);
    Due.is("the next", x.digits(low, 1), 15);
    Due.is("not square", x.digits(Due.full(x, new double[][] {{1, 2}}), 1), 0);
    Due.is("not on the LATTICE", x.digits(Due.full(x, new double[][] {{1 + 0x1p-52, 0}, {0, OFF}}), 0), 0);
    Due.is("no matrix", x.digits(20, 0), 0);
    Due.is("matrix -1", x.digits(-1, 0), 0);
    Due.is("k 28", x.digits(top, 28), 0);
    Due.is("k far", x.digits(top, Integer.MAX_VALUE), 0);
  }

  private static double upward(long up, long down) {
    return new Exact(BigInteger.valueOf(up), BigInteger.valueOf(down)).upward();
  }

  private static void promise34Condition() {
    SystemLab x = new SystemLab();
    Due.isNumber("condition", x.condition(Due.full(x, new double[][] {{1, 2}, {3, 4}})), 21);
    Due.isNumber("of a number", x.condition(Due.full(x, new double[][] {{-0.1}})), 1);
    Due.isNumber("UP", x.condition(Due.full(x, new double[][] {{3, 1}, {2, 5}})), upward(42, 13));
    for (int k = 3; k < 12; k++) {
      int m = Due.full(x, new double[][] {{k, 1}, {0, 1}});
      Due.isNumber("UP of (k + 1)^2 / k, or k + 1", x.condition(m), k + 1);
      x.put(m, 1, 1, Due.bits(k + 2));
      Due.isNumber("UP at " + k, x.condition(m), upward((k + 2) * (k + 3L), k * (k + 2L)));
    }
    Due.is("no inverse", x.condition(Due.full(x, new double[][] {{1, 2}, {2, 4}})), -1);
    Due.is("not square", x.condition(Due.full(x, new double[][] {{1, 2}})), -1);
    Due.is("not on the LATTICE", x.condition(Due.full(x, new double[][] {{OFF}})), -1);
    Due.is("no matrix", x.condition(23), -1);
    Due.is("matrix -1", x.condition(-1), -1);
  }

  private static void promise35Gap() {
    SystemLab x = new SystemLab();
    int w = Due.full(x, new double[][] {{2, 0}, {0, 4}});
    int inverse = Due.full(x, new double[][] {{0.5, 0}, {0, 0.25}});
    Due.isNumber("gap 0", x.gap(inverse, w), 0);
    int near = Due.full(x, new double[][] {{0.5, 0.125}, {-0.25, 0.375}});
    Due.isNumber("the greatest row sum", x.gap(near, w), 1);
    Due.isNumber("x times w, not w times x", x.gap(w, near), 1.5);
    int third = Due.full(x, new double[][] {{1.0 / 3}});
    int three = Due.full(x, new double[][] {{3}});
    Due.isNumber("exact", x.gap(third, three), 0x1p-54);
    int off = Due.full(x, new double[][] {{MIN, 0}, {0, MIN}});
    Due.isNumber("x need not be on the LATTICE; UP", x.gap(off, w), 1);
    Due.is("w must", x.gap(w, off), -1);
    int minus = Due.full(x, new double[][] {{-MIN, 0}, {0, -MIN}});
    Due.isNumber("UP of a little above 1", x.gap(minus, w), 1 + 0x1p-52);
    int big = Due.full(x, new double[][] {{MAX, 0}, {0, MAX}});
    Due.is("not finite", x.gap(big, w), -1);
    int small = Due.full(x, new double[][] {{0x1p-60, 0}, {0, 0x1p-60}});
    Due.isNumber("finite", x.gap(big, small), MAX * 0x1p-60);
    int wide = Due.full(x, new double[][] {{1, 2}});
    Due.is("x not square", x.gap(wide, w), -1);
    Due.is("w not square", x.gap(w, wide), -1);
    Due.is("not of the same n", x.gap(third, w), -1);
    Due.is("no x", x.gap(23, w), -1);
    Due.is("no w", x.gap(w, -1), -1);
  }

  private static double boundOf(double g, double n, double r) {
    return Math.nextUp(Math.nextUp(n * r) / Math.nextDown(1 - g));
  }

  private static void promise36Bound() {
    SystemLab x = new SystemLab();
    int third = Due.full(x, new double[][] {{1.0 / 3}});
    int three = Due.full(x, new double[][] {{3}});
    int s = Due.row(x, 1.0 / 3);
    int r = Due.row(x, 1);
    Due.isNumber("bound", x.bound(third, three, s, r), boundOf(0x1p-54, Math.nextUp(1.0 / 3), 0x1p-54));
    int zero = Due.row(x, 0);
    Due.isNumber("of the solution itself", x.bound(third, three, zero, zero), boundOf(0x1p-54, 1, 0));
    int w = Due.full(x, new double[][] {{2, 0}, {0, 4}});
    int y = Due.full(x, new double[][] {{0.5, 0}, {0.125, 0.3}});
    int p = Due.row(x, 1, 1);
    int q = Due.row(x, 7, -7);
    double n = Math.nextUp(Math.nextUp(0 + 0.125) + 0.3);
    double other = Math.nextUp(Math.nextUp(0 + 0.5) + 0);
    double g = new Exact(BigInteger.ONE, BigInteger.valueOf(4))
        .plus(Exact.of(0.3).times(Exact.of(4)).minus(Exact.ONE)).upward();
    Due.isNumber("its gap", x.gap(y, w), g);
    Due.isNumber("each step next above", x.bound(y, w, p, q), boundOf(g, Math.max(n, other), 11));
    int one = Due.full(x, new double[][] {{0.5, 0.25}, {0, 0.25}});
    Due.isNumber("gap 1: -1.0", x.bound(one, w, p, q), -1);
    int near = Due.full(x, new double[][] {{0.5, 0.125}, {-0.25, 0.375}});
    Due.isNumber("gap 1.5: -1.0", x.bound(w, near, p, q), -1);
    int off = Due.full(x, new double[][] {{MIN, 0}, {0, 1}});
    Due.is("w is not on the LATTICE", x.bound(w, off, p, q), -1);
    Due.is("s does not fit", x.bound(y, w, s, q), -1);
    Due.is("r does not fit", x.bound(y, w, p, r), -1);
    Due.is("x does not fit", x.bound(third, w, p, q), -1);
    Due.is("neither", x.bound(third, w, s, r), -1);
    int wide = Due.full(x, new double[][] {{1, 2}});
    Due.is("w not square", x.bound(y, wide, p, r), -1);
    Due.is("x not square", x.bound(wide, three, s, r), -1);
    Due.is("no x", x.bound(23, w, p, q), -1);
    Due.is("no w", x.bound(y, 23, p, q), -1);
    Due.is("no s", x.bound(y, w, 23, q), -1);
    Due.is("no r", x.bound(y, w, p, -1), -1);
  }

  private static void promise36NotFinite() {
    SystemLab x = new SystemLab();
    int big = Due.full(x, new double[][] {{MAX}});
    int one = Due.full(x, new double[][] {{1}});
    int four = Due.full(x, new double[][] {{4}});
    int s = Due.row(x, MAX);
    int r = Due.row(x, -MAX);
    int zero = Due.row(x, 0);
    Due.isNumber("the GAP is not finite", x.bound(big, four, s, r), -1);
    Due.isNumber("R is not finite", x.bound(one, one, s, r), -1);
    Due.isNumber("the bound is not finite", x.bound(one, one, s, zero), -1);
    int low = Due.full(x, new double[][] {{0x1p-30}});
    int high = Due.full(x, new double[][] {{0x1p30}});
    Due.isNumber("R is not finite, N is small", x.bound(low, high, s, zero), -1);
    int half = Due.full(x, new double[][] {{0.5}});
    Due.isNumber("B / D is not finite", x.bound(half, one, s, zero), -1);
    int tenth = Due.full(x, new double[][] {{0.125}});
    int seven = Due.full(x, new double[][] {{7}});
    Due.isNumber("finite", x.bound(tenth, seven, Due.row(x, 0x1p1000), zero),
        boundOf(0.125, Math.nextUp(0.125), 7 * 0x1p1000));
    int w = Due.full(x, new double[][] {{0, 0}, {0, 0x1p-60}});
    int wild = Due.full(x, new double[][] {{0, MAX}, {0, 0}});
    Due.isNumber("row sums at the greatest", x.bound(wild, w, Due.row(x, 0, 0), Due.row(x, 0, 0)), -1);
  }

  private static void promise37Reorder() {
    SystemLab x = new SystemLab();
    int m = x.matrix(3, 5, 5, 0, 0);
    // a chain 0 - 3 - 1 - 4 - 2, told from one side or the other
    int[][] near = {{0, 3}, {1, 3}, {4, 1}, {2, 4}};
    for (int[] p : near) {
      x.put(m, p[0], p[1], Due.bits(1 + p[0]));
    }
    x.put(m, 3, 3, Due.bits(9));
    Due.is("reorder", x.reorder(m), 1);
    int[] order = {2, 4, 1, 3, 0};
    for (int k = 0; k < 5; k++) {
      Due.is("place " + k, x.place(k), order[k]);
      for (int j = 0; j < 5; j++) {
        Due.is("rows and columns in this order", x.get(1, k, j), x.get(m, order[k], order[j]));
      }
    }
    Due.is("the WIDTH before", x.shape(m, 7), 3);
    Due.is("the WIDTH after", x.shape(1, 7), 1);
    Due.is("it is FULL", x.shape(1, 0), 0);
    Due.is("not square", x.reorder(Due.full(x, new double[][] {{1, 2}})), -1);
    Due.is("no matrix", x.reorder(9), -1);
    Due.is("matrix -1", x.reorder(-1), -1);
    // a star about 0, and 5 alone: 5 first (no neighbours), then 1, its one neighbour 0, then 2, 3, 4
    int star = x.matrix(0, 6, 6, 0, 0);
    for (int k = 1; k < 5; k++) {
      x.put(star, 0, k, Due.bits(1));
    }
    x.reorder(star);
    int[] round = {4, 3, 2, 0, 1, 5};
    for (int k = 0; k < 6; k++) {
      Due.is("star: place " + k, x.place(k), round[k]);
    }
  }

  private static void promise37Stays() {
    SystemLab x = new SystemLab();
    int zero = x.matrix(0, 3, 3, 0, 0);
    Due.is("reorder of zeros", x.reorder(zero), 1);
    for (int k = 0; k < 3; k++) {
      Due.is("as wide: it is turned round", x.place(k), 2 - k);
    }
    // a star about 2: the row 0, 2, 1, 3, 4 turned round has the WIDTH 3, as it was it has 2
    int star = x.matrix(0, 5, 5, 0, 0);
    for (int k : new int[] {0, 1, 3, 4}) {
      x.put(star, k < 2 ? k : 2, k < 2 ? 2 : k, Due.bits(k + 1));
    }
    int made = x.reorder(star);
    for (int k = 0; k < 5; k++) {
      Due.is("it would be wider: the order stays", x.place(k), k);
    }
    Due.is("the same numbers", x.same(made, star), 1);
    Due.is("and another matrix", made, 3);
    x.reorder(zero);
    x.reorder(x.transpose(star));
    for (int k = 0; k < 5; k++) {
      Due.is("its rows for columns: the order stays", x.place(k), k);
    }
  }

  private static void promise38Place() {
    SystemLab x = new SystemLab();
    Due.is("place before any reorder", x.place(0), -1);
    int m = Due.full(x, new double[][] {{1, 0}, {0, 1}});
    x.reorder(m);
    Due.is("place 0", x.place(0), 1);
    Due.is("place 1", x.place(1), 0);
    Due.is("place 2", x.place(2), -1);
    Due.is("place -1", x.place(-1), -1);
    Due.is("a reorder that is refused", x.reorder(17), -1);
    Due.is("place stays", x.place(0), 1);
    x.drop(0);
    x.drop(1);
    Due.is("place stays when the matrices go", x.place(1), 0);
    x.reorder(Due.full(x, new double[][] {{4}}));
    Due.is("of the latest", x.place(0), 0);
    Due.is("of the latest alone", x.place(1), -1);
  }

  private static void theLargest() {
    SystemLab x = new SystemLab();
    Model y = new Model();
    x.matrix(0, 8, 8, 0, 0);
    y.matrix(0, 8, 8, 0, 0);
    x.vector(8);
    y.vector(8);
    for (int i = 0; i < 8; i++) {
      for (int j = 0; j < 8; j++) {
        double size = (i + j) % 3 == 0 ? 0x1p40 - (i * 8 + j + 1) * 0x1p-13 : (0x1p53 - 1 - i * j) * 0x1p-60;
        long bits = Due.bits((i * j & 2) != 0 ? -size : size);
        x.put(0, i, j, bits);
        y.put(0, i, j, bits);
      }
      x.set(0, i, Due.bits(0x1p-60 * (i - 3)));
      y.set(0, i, Due.bits(0x1p-60 * (i - 3)));
    }
    Due.is("largest: rank", x.rank(0), 8);
    Due.is("largest: determinant", x.determinant(0), y.determinant(0));
    Due.is("largest: condition", x.condition(0), y.condition(0));
    Due.is("largest: exactly", x.exactly(0, 0), y.exactly(0, 0));
    for (int k = 0; k < 28; k++) {
      Due.is("largest: digits " + k, x.digits(0, k), y.digits(0, k));
    }
    for (int i = 0; i < 8; i++) {
      Due.is("largest: value " + i, x.value(1, i), y.value(1, i));
    }
  }
}
