/** Promises 13 to 18: factors. */
public final class FactorsTest {
  private static final double MAX = Double.MAX_VALUE;
  private static final double MIN = Double.MIN_VALUE;

  public static void main(String[] args) {
    promise13Plain();
    promise13ByRows();
    promise13ByRowsAndColumns();
    promise13ByRoots();
    promise13Fused();
    promise13Fails();
    promise13NotFinite();
    promise13Refused();
    promise14Release();
    promise15Part();
    promise16Order();
    promise17Growth();
    promise18Pivots();
    promise18Subnormal();
    Due.end("FactorsTest");
  }

  private static void partIs(String call, SystemLab x, int f, double[][] want) {
    for (int i = 0; i < want.length; i++) {
      for (int j = 0; j < want.length; j++) {
        Due.isNumber(call + " part " + i + ", " + j, x.part(f, i, j), want[i][j]);
      }
    }
  }

  private static void orderIs(String call, SystemLab x, int f, int axis, int... want) {
    for (int k = 0; k < want.length; k++) {
      Due.is(call + " order " + axis + ", " + k, x.order(f, axis, k), want[k]);
    }
    Due.is(call + " order beyond", x.order(f, axis, want.length), -1);
  }

  private static void promise13Plain() {
    SystemLab x = new SystemLab();
    int m = Due.full(x, new double[][] {{2, 1, 1}, {4, 3, 3}, {8, 7, 9}});
    Due.is("factor plain", x.factor(m, 0, false), 0);
    partIs("plain", x, 0, new double[][] {{2, 1, 1}, {2, 1, 1}, {4, 3, 2}});
    orderIs("plain", x, 0, 0, 0, 1, 2);
    orderIs("plain", x, 0, 1, 0, 1, 2);
    x.put(m, 0, 0, Due.bits(100));
    Due.isNumber("as the matrix was", x.part(0, 0, 0), 2);
    x.drop(m);
    Due.isNumber("the matrix gone", x.part(0, 2, 1), 3);
    int low = x.matrix(1, 2, 2, 0, 0);
    x.put(low, 0, 0, Due.bits(4));
    x.put(low, 1, 0, Due.bits(1));
    x.put(low, 1, 1, Due.bits(3));
    Due.is("factor of LOWER", x.factor(low, 0, true), 1);
    partIs("LOWER", x, 1, new double[][] {{4, 0}, {0.25, 3}});
  }

  private static void promise13ByRows() {
    SystemLab x = new SystemLab();
    int m = Due.full(x, new double[][] {{1, 2, 4}, {-4, 4, 8}, {4, 8, 0}});
    Due.is("factor by rows", x.factor(m, 1, false), 0);
    partIs("by rows", x, 0, new double[][] {{-4, 4, 8}, {-1, 12, 8}, {-0.25, 0.25, 4}});
    orderIs("by rows, of several the first", x, 0, 0, 1, 2, 0);
    orderIs("by rows", x, 0, 1, 0, 1, 2);
  }

  private static void promise13ByRowsAndColumns() {
    SystemLab x = new SystemLab();
    int m = Due.full(x, new double[][] {{1, 2, 0}, {2, -8, 4}, {8, 0, 8}});
    Due.is("factor by rows and columns", x.factor(m, 2, false), 0);
    orderIs("by both, the first by rows", x, 0, 0, 1, 2, 0);
    orderIs("by both", x, 0, 1, 1, 0, 2);
    partIs("by both", x, 0, new double[][] {{-8, 2, 4}, {-0.0, 8, 8}, {-0.25, 0.1875, -0.5}});
    int tie = Due.full(x, new double[][] {{1, 3}, {3, 1}});
    int f = x.factor(tie, 2, false);
    orderIs("a tie, rows", x, f, 0, 0, 1);
    orderIs("a tie, columns", x, f, 1, 1, 0);
    int line = Due.full(x, new double[][] {{0, 5, -5}, {0, 0, 0.5}, {1, 0, 0}});
    int g = x.factor(line, 2, true);
    orderIs("in one row, rows", x, g, 0, 0, 2, 1);
    orderIs("in one row, columns", x, g, 1, 1, 0, 2);
  }

  private static void promise13ByRoots() {
    SystemLab x = new SystemLab();
    int m = Due.full(x, new double[][] {{4, 99, -77}, {2, 10, MAX}, {-6, 0, 26}});
    Due.is("factor by roots", x.factor(m, 3, false), 0);
    partIs("by roots, only below is looked at", x, 0, new double[][] {{2, 0, 0}, {1, 3, 0}, {-3, 1, 4}});
    orderIs("by roots", x, 0, 0, 0, 1, 2);
    orderIs("by roots", x, 0, 1, 0, 1, 2);
    int r = Due.full(x, new double[][] {{2}});
    Due.isNumber("root of 2", x.part(x.factor(r, 3, true), 0, 0), Math.sqrt(2));
    for (double d : new double[] {MIN, MAX, 3, 0x1p-1073, 0x1.fffffffffffffp1, 0x1.fffffffffffffp0, 5e-324 * 7}) {
      x.put(r, 0, 0, Due.bits(d));
      int f = x.factor(r, 3, false);
      Due.isNumber("root of " + d, x.part(f, 0, 0), Math.sqrt(d));
      x.release(f);
    }
  }

  private static void promise13Fused() {
    SystemLab x = new SystemLab();
    double e = 1 + 0x1p-30;
    int m = Due.full(x, new double[][] {{1, e}, {e, 1}});
    partIs("not fused", x, x.factor(m, 0, false), new double[][] {{1, e}, {e, -0x1p-29}});
    partIs("fused", x, x.factor(m, 0, true), new double[][] {{1, e}, {e, -0x1p-29 - 0x1p-60}});
    int s = Due.full(x, new double[][] {{1, 0}, {e, 4}});
    Due.isNumber("roots, not fused", x.part(x.factor(s, 3, false), 1, 1), Math.sqrt(4 - e * e));
    Due.isNumber("roots, fused", x.part(x.factor(s, 3, true), 1, 1), Math.sqrt(Math.fma(-e, e, 4)));
  }

  private static void promise13Fails() {
    SystemLab x = new SystemLab();
    int m = Due.full(x, new double[][] {{0, 1}, {1, 0}});
    Due.is("plain fails at 0", x.factor(m, 0, false), -2);
    Due.is("by rows it does not", x.factor(m, 1, false), 0);
    int one = Due.full(x, new double[][] {{1, 1}, {1, 1}});
    for (int method = 0; method < 4; method++) {
      Due.is("method " + method + " fails at the last too", x.factor(one, method, true), -3);
    }
    int zero = x.matrix(0, 3, 3, 0, 0);
    for (int method = 0; method < 4; method++) {
      Due.is("of zeros, method " + method, x.factor(zero, method, false), -2);
    }
    int tiny = Due.full(x, new double[][] {{1, 0.25}, {MIN, 0}});
    Due.is("-0 fails too", x.factor(tiny, 0, true), -3);
    Due.is("-0 fails too, by rows", x.factor(tiny, 1, true), -3);
    int below = Due.full(x, new double[][] {{1, 0, 0}, {0, 1, 0}, {0, 0, -1}});
    Due.is("roots: not above 0", x.factor(below, 3, false), -4);
    int not = Due.full(x, new double[][] {{4, 0}, {4, 3}});
    Due.is("roots: 3 - 2 * 2 is below 0", x.factor(not, 3, false), -3);
    int rank2 = Due.full(x, new double[][] {{1, 2, 3}, {2, 4, 6}, {1, 0, 1}});
    Due.is("by both, of rank 2", x.factor(rank2, 2, false), -4);
    Due.is("a failing factor is not there", x.count(1), 1);
    Due.is("release of it", x.release(1), false);
  }

  private static void promise13NotFinite() {
    SystemLab x = new SystemLab();
    int m = Due.full(x, new double[][] {{0x1p-1000, 1}, {0x1p100, 1}});
    Due.is("l is not finite", x.factor(m, 0, false), -2);
    Due.is("l is not finite, fused", x.factor(m, 0, true), -2);
    Due.is("by rows it is", x.factor(m, 1, false), 0);
    int zero = Due.full(x, new double[][] {{0x1p-1000, 0}, {0x1p100, 1}});
    Due.is("l is not finite, but all behind it 0", x.factor(zero, 0, true), -2);
    int w = Due.full(x, new double[][] {{1, 0, 0}, {0, 1, MAX}, {0, 4, 1}});
    Due.is("a number is not finite", x.factor(w, 0, false), -3);
    Due.is("a number is not finite, fused", x.factor(w, 0, true), -3);
    int less = Due.full(x, new double[][] {{1, MAX}, {2, MAX}});
    Due.is("the product alone is not", x.factor(less, 0, false), -2);
    Due.is("fused it is", x.factor(less, 0, true), 1);
    Due.isNumber("fused", x.part(1, 1, 1), -MAX);
    int root = Due.full(x, new double[][] {{0x1p-1000, 0}, {0x1p600, 1}});
    Due.is("roots: a quotient is not finite", x.factor(root, 3, false), -3);
    int square = Due.full(x, new double[][] {{1, 0}, {0x1p600, 1}});
    Due.is("roots: t is not finite", x.factor(square, 3, true), -3);
  }

  private static void promise13Refused() {
    SystemLab x = new SystemLab();
    int m = Due.full(x, new double[][] {{3}});
    int wide = x.matrix(0, 1, 2, 0, 0);
    Due.is("not as many rows as columns", x.factor(wide, 1, false), -1);
    Due.is("method 4", x.factor(m, 4, false), -1);
    Due.is("method -1", x.factor(m, -1, false), -1);
    Due.is("no matrix", x.factor(5, 0, false), -1);
    Due.is("matrix -1", x.factor(-1, 0, false), -1);
    Due.is("matrix 24", x.factor(24, 0, false), -1);
    for (int k = 0; k < 12; k++) {
      Due.is("the least number that is free", x.factor(m, k % 4, k % 2 == 0), k);
    }
    Due.is("the 13th", x.factor(m, 0, false), -1);
    x.release(8);
    x.release(3);
    Due.is("the least again", x.factor(m, 0, false), 3);
    Due.is("and the next", x.factor(m, 0, false), 8);
    Due.is("count", x.count(1), 12);
  }

  private static void promise14Release() {
    SystemLab x = new SystemLab();
    int m = Due.full(x, new double[][] {{3}});
    x.factor(m, 0, false);
    Due.is("release", x.release(0), true);
    Due.is("release again", x.release(0), false);
    Due.is("part of none", x.part(0, 0, 0), -1);
    Due.is("count", x.count(1), 0);
    for (int f : new int[] {-1, 1, 11, 12, 100, Integer.MIN_VALUE}) {
      Due.is("release(" + f + ")", x.release(f), false);
    }
  }

  private static void promise15Part() {
    SystemLab x = new SystemLab();
    int m = Due.full(x, new double[][] {{-2, 4}, {0, 5}});
    x.factor(m, 0, false);
    partIs("-0 stays in a factor", x, 0, new double[][] {{-2, 4}, {-0.0, 5}});
    int[][] none = {{0, 2, 0}, {0, 0, 2}, {0, -1, 0}, {0, 0, -1}, {1, 0, 0}, {-1, 0, 0}, {12, 0, 0}};
    for (int[] p : none) {
      Due.is("part " + p[0] + ", " + p[1] + ", " + p[2], x.part(p[0], p[1], p[2]), -1);
    }
  }

  private static void promise16Order() {
    SystemLab x = new SystemLab();
    int m = Due.full(x, new double[][] {{0, 0, 2}, {0, 3, 0}, {5, 0, 0}});
    x.factor(m, 1, false);
    orderIs("by rows", x, 0, 0, 2, 1, 0);
    orderIs("by rows", x, 0, 1, 0, 1, 2);
    x.factor(m, 2, false);
    orderIs("by both", x, 1, 0, 2, 1, 0);
    orderIs("by both", x, 1, 1, 0, 1, 2);
    Due.is("axis 2", x.order(0, 2, 0), -1);
    Due.is("axis -1", x.order(0, -1, 0), -1);
    Due.is("k -1", x.order(0, 0, -1), -1);
    Due.is("no factor", x.order(2, 0, 0), -1);
    Due.is("factor -1", x.order(-1, 0, 0), -1);
    Due.is("factor 12", x.order(12, 1, 0), -1);
  }

  private static void promise17Growth() {
    SystemLab x = new SystemLab();
    int m = Due.full(x, new double[][] {{0.125, 1}, {1, 3}});
    x.factor(m, 0, false);
    Due.isNumber("growth", x.growth(0), 5.0 / 3);
    int l = Due.full(x, new double[][] {{0.125, 0.5}, {1, 0}});
    x.factor(l, 0, false);
    Due.isNumber("growth, not of what is below", x.growth(1), 4);
    int r = Due.full(x, new double[][] {{4, 0}, {2, 5}});
    x.factor(r, 3, false);
    Due.isNumber("growth by roots", x.growth(2), 2.0 / 5);
    int u = Due.full(x, new double[][] {{1, 0}, {3, 10}});
    x.put(u, 0, 1, Due.bits(-20));
    x.factor(u, 3, false);
    Due.isNumber("growth by roots, its matrix whole", x.growth(3), 3.0 / 20);
    double b = 0x1p-520;
    int big = Due.full(x, new double[][] {{b * b, 0, b}, {b, b * b, 0}, {0, b, 0}});
    Due.is("a factor that grows", x.factor(big, 0, false), 4);
    Due.isNumber("beyond all doubles", x.growth(4), Double.POSITIVE_INFINITY);
    x.put(m, 1, 1, Due.bits(1000));
    Due.isNumber("of the matrix as it was", x.growth(0), 5.0 / 3);
    Due.is("growth of none", x.growth(5), -1);
    Due.is("growth of -1", x.growth(-1), -1);
    Due.is("growth of 12", x.growth(12), -1);
  }

  private static void pivotsAre(String call, SystemLab x, int f, double p, int e) {
    Due.isNumber(call + " p", x.pivots(f, 0), p);
    Due.is(call + " e", x.pivots(f, 1), e);
  }

  private static void promise18Pivots() {
    SystemLab x = new SystemLab();
    int m = Due.full(x, new double[][] {{3, 0}, {0, -7}});
    x.factor(m, 0, false);
    pivotsAre("-21", x, 0, -21.0 / 16, 4);
    int t = Due.full(x, new double[][] {{0, 3}, {7, 0}});
    x.factor(t, 1, false);
    pivotsAre("one exchange", x, 1, -21.0 / 16, 4);
    int u = Due.full(x, new double[][] {{0, 0, 5}, {1, 0, 0}, {0, 2, 0}});
    x.factor(u, 1, false);
    pivotsAre("two exchanges", x, 2, 10.0 / 8, 3);
    x.factor(u, 2, false);
    pivotsAre("rows and columns exchanged", x, 3, 10.0 / 8, 3);
    int r = Due.full(x, new double[][] {{9, 0}, {0, 0.25}});
    x.factor(r, 3, false);
    pivotsAre("roots: (3 / 2)^2", x, 4, 9.0 / 8, 1);
    int h = Due.full(x, new double[][] {{1.0 / 3, 0, 0}, {0, 1.0 / 7, 0}, {0, 0, 1.1}});
    x.factor(h, 0, false);
    double p = 4.0 / 3 * (8.0 / 7) * 1.1;
    pivotsAre("rounded each time", x, 5, p, -5);
    Due.is("what 2", x.pivots(0, 2), -1);
    Due.is("what -1", x.pivots(0, -1), -1);
    Due.is("pivots of none", x.pivots(6, 0), -1);
    Due.is("pivots of -1", x.pivots(-1, 1), -1);
    Due.is("pivots of 12", x.pivots(12, 1), -1);
  }

  private static void promise18Subnormal() {
    SystemLab x = new SystemLab();
    int m = Due.full(x, new double[][] {{MIN * 5, 0}, {0, -MIN}});
    x.factor(m, 0, false);
    pivotsAre("subnormal", x, 0, -1.25, -1074 + 2 - 1074);
    int b = Due.full(x, new double[][] {{MAX, 0}, {0, MAX}});
    x.factor(b, 0, false);
    double u = 0x1.fffffffffffffp0;
    pivotsAre("the greatest", x, 1, u * u / 2, 2047);
    int r = Due.full(x, new double[][] {{MIN}});
    x.factor(r, 3, true);
    pivotsAre("root of the least", x, 2, 1, -1074);
  }
}
