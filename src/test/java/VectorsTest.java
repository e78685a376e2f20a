/** Promises 19 to 28: vectors, solutions, residuals, refining, inverses. */
public final class VectorsTest {
  private static final double MAX = Double.MAX_VALUE;
  private static final double MIN = Double.MIN_VALUE;

  public static void main(String[] args) {
    promise19Vector();
    promise20Forget();
    promise21Set();
    promise22Value();
    promise23Size();
    promise24Solve();
    promise24Fused();
    promise24NoSolution();
    promise25Residual();
    promise25Rounded();
    promise25Ties();
    promise26Greatest();
    promise27Refine();
    promise27Over();
    promise27Refused();
    promise28Inverse();
    Due.end("VectorsTest");
  }

  private static void promise19Vector() {
    SystemLab x = new SystemLab();
    Due.is("vector(0)", x.vector(0), -1);
    Due.is("vector(9)", x.vector(9), -1);
    Due.is("vector(-1)", x.vector(-1), -1);
    for (int k = 0; k < 24; k++) {
      Due.is("vector, the least number that is free", x.vector(1 + k % 8), k);
    }
    Due.is("the 25th", x.vector(3), -1);
    x.set(5, 0, Due.bits(4));
    x.forget(9);
    x.forget(5);
    Due.is("the least again", x.vector(8), 5);
    Due.vectorIs("made anew", x, 5, 0, 0, 0, 0, 0, 0, 0, 0);
    Due.is("count", x.count(2), 23);
  }

  private static void promise20Forget() {
    SystemLab x = new SystemLab();
    x.vector(2);
    x.vector(2);
    Due.is("forget", x.forget(0), true);
    Due.is("forget again", x.forget(0), false);
    Due.is("size of none", x.size(0), -1);
    Due.is("the other stays", x.size(1), 2);
    for (int v : new int[] {-1, 2, 23, 24, Integer.MAX_VALUE}) {
      Due.is("forget(" + v + ")", x.forget(v), false);
    }
    Due.is("count", x.count(2), 1);
  }

  private static void promise21Set() {
    SystemLab x = new SystemLab();
    x.vector(3);
    Due.is("set", x.set(0, 2, Due.bits(-2.5)), true);
    Due.is("set NaN", x.set(0, 2, Due.bits(Double.NaN)), false);
    Due.is("set infinity", x.set(0, 2, Due.bits(Double.POSITIVE_INFINITY)), false);
    Due.is("set -infinity", x.set(0, 2, Due.bits(Double.NEGATIVE_INFINITY)), false);
    Due.vectorIs("set", x, 0, 0, 0, -2.5);
    Due.is("set -0", x.set(0, 2, Due.bits(-0.0)), true);
    Due.vectorIs("-0 becomes 0", x, 0, 0, 0, 0);
    Due.is("set at 3", x.set(0, 3, 0), false);
    Due.is("set at -1", x.set(0, -1, 0), false);
    Due.is("set at 8", x.set(0, 8, 0), false);
    Due.is("set of none", x.set(1, 0, 0), false);
    Due.is("set of -1", x.set(-1, 0, 0), false);
    Due.is("set of 24", x.set(24, 0, 0), false);
  }

  private static void promise22Value() {
    SystemLab x = new SystemLab();
    Due.row(x, 1, MIN, -MAX);
    Due.isNumber("value", x.value(0, 1), MIN);
    Due.isNumber("value", x.value(0, 2), -MAX);
    Due.is("value at 3", x.value(0, 3), -1);
    Due.is("value at -1", x.value(0, -1), -1);
    Due.is("value of none", x.value(1, 0), -1);
    Due.is("value of -1", x.value(-1, 0), -1);
    Due.is("value of 24", x.value(24, 0), -1);
  }

  private static void promise23Size() {
    SystemLab x = new SystemLab();
    for (int n = 1; n <= 8; n++) {
      Due.is("size", x.size(x.vector(n)), n);
    }
    Due.is("size of none", x.size(8), -1);
    Due.is("size of -1", x.size(-1), -1);
    Due.is("size of 24", x.size(24), -1);
  }

  private static void promise24Solve() {
    SystemLab x = new SystemLab();
    int m = Due.full(x, new double[][] {{0, 2, 0}, {4, 0, 8}, {1, 1, 0}});
    int r = Due.row(x, 6, -4, 1);
    x.factor(m, 1, false);
    Due.is("solve", x.solve(0, r), 1);
    Due.vectorIs("by rows", x, 1, -2, 3, 0.5);
    x.factor(m, 2, false);
    Due.vectorIs("by rows and columns", x, x.solve(1, r), -2, 3, 0.5);
    int p = Due.full(x, new double[][] {{4, 0}, {2, 10}});
    int q = Due.row(x, 8, 22);
    x.factor(p, 3, false);
    Due.vectorIs("by roots, of what is below", x, x.solve(2, q), 1, 2);
    int one = Due.full(x, new double[][] {{-3}});
    x.factor(one, 0, false);
    Due.vectorIs("-0 becomes 0", x, x.solve(3, Due.row(x, 0)), 0);
    Due.vectorIs("rounded", x, x.solve(3, Due.row(x, 1)), -1.0 / 3);
    Due.vectorIs("r stays", x, r, 6, -4, 1);
    Due.is("not n numbers", x.solve(0, q), -1);
    Due.is("no factor", x.solve(4, r), -1);
    Due.is("factor -1", x.solve(-1, r), -1);
    Due.is("factor 12", x.solve(12, r), -1);
    Due.is("no vector", x.solve(0, 20), -1);
    Due.is("vector -1", x.solve(0, -1), -1);
    while (x.vector(3) >= 0) {
      Due.is("size", x.size(r), 3);
    }
    Due.is("solve beside 24", x.solve(0, r), -1);
    Due.is("count", x.count(2), 24);
  }

  private static void promise24Fused() {
    SystemLab x = new SystemLab();
    double e = 1 + 0x1p-30;
    int m = Due.full(x, new double[][] {{1, e}, {e, 3}});
    int r = Due.row(x, e, e);
    x.factor(m, 0, false);
    x.factor(m, 0, true);
    double z = (e - e * e) / (3 - e * e);
    Due.vectorIs("not fused", x, x.solve(0, r), e - e * z, z);
    double f = Math.fma(-e, e, e) / Math.fma(-e, e, 3);
    Due.vectorIs("fused", x, x.solve(1, r), Math.fma(-e, f, e), f);
    int s = Due.full(x, new double[][] {{1, 0}, {e, 3}});
    x.factor(s, 3, true);
    double h = Math.sqrt(Math.fma(-e, e, 3));
    double y = Math.fma(-e, e, e) / h / h;
    Due.vectorIs("roots, fused", x, x.solve(2, r), Math.fma(-e, y, e), y);
  }

  private static void promise24NoSolution() {
    SystemLab x = new SystemLab();
    int m = Due.full(x, new double[][] {{1, 0}, {0, 0x1p-1000}});
    x.factor(m, 0, false);
    Due.is("a number is not finite", x.solve(0, Due.row(x, 1, 0x1p100)), -1);
    Due.is("it is", x.solve(0, Due.row(x, 1, 0)), 2);
    int w = Due.full(x, new double[][] {{1, 1}, {0, 1}});
    x.factor(w, 0, false);
    Due.is("t is not finite", x.solve(1, Due.row(x, MAX, -MAX)), -1);
    int l = Due.full(x, new double[][] {{1, 0}, {4, 1}});
    x.factor(l, 0, true);
    Due.is("y is not finite", x.solve(2, Due.row(x, MAX, 1)), -1);
    int way = Due.full(x, new double[][] {{1, 0, 0}, {4, 1, 0}, {0, 0, 1}});
    x.factor(way, 0, false);
    Due.is("y is not finite, and 0 behind it", x.solve(3, Due.row(x, MAX, 1, 1)), -1);
    Due.is("nothing was made", x.count(2), 6);
  }

  private static void promise25Residual() {
    SystemLab x = new SystemLab();
    int m = Due.full(x, new double[][] {{1, 2, 3}, {4, 5, 6}});
    int s = Due.row(x, 1, 1, -1);
    int r = Due.row(x, 0, 10);
    Due.isNumber("residual 0 is 0, not -0", x.residual(m, s, r, 0), 0);
    Due.isNumber("residual 1", x.residual(m, s, r, 1), 7);
    Due.is("residual 2", x.residual(m, s, r, 2), -1);
    Due.is("residual -1", x.residual(m, s, r, -1), -1);
    Due.is("turned vectors do not fit", x.residual(m, r, s, 0), -1);
    Due.is("s does not fit", x.residual(m, r, r, 0), -1);
    Due.is("r does not fit", x.residual(m, s, s, 0), -1);
    Due.is("no matrix", x.residual(1, s, r, 0), -1);
    Due.is("no s", x.residual(m, 9, r, 0), -1);
    Due.is("no r", x.residual(m, s, 9, 0), -1);
    Due.is("-1s", x.residual(-1, -1, -1, 0), -1);
    int q = Due.full(x, new double[][] {{1, 1}, {0, 3}});
    Due.isNumber("s and r the same", x.residual(q, r, r, 1), -20);
  }

  private static void promise25Rounded() {
    SystemLab x = new SystemLab();
    int m = Due.full(x, new double[][] {{MAX, MAX, 1, 0.1}});
    int s = Due.row(x, MAX, -MAX, 1, 0);
    int r = Due.row(x, 0x1p60);
    Due.isNumber("exact, through what no double holds", x.residual(m, s, r, 0), 0x1p60);
    x.set(s, 2, Due.bits(-0x1p-200));
    Due.isNumber("rounded once", x.residual(m, s, r, 0), 0x1p60);
    x.set(r, 0, Due.bits(-1));
    Due.isNumber("a little", x.residual(m, s, r, 0), -1);
    x.set(r, 0, Due.bits(1 + 0x1p-52));
    x.set(s, 2, Due.bits(0x1p-53));
    Due.isNumber("a tie to the even", x.residual(m, s, r, 0), 1);
    x.set(s, 3, Due.bits(-MIN));
    Due.isNumber("a little above the tie", x.residual(m, s, r, 0), 1 + 0x1p-52);
    x.set(s, 3, Due.bits(MIN));
    Due.isNumber("a little below it", x.residual(m, s, r, 0), 1);
    int big = Due.full(x, new double[][] {{MAX}});
    int two = Due.row(x, 2);
    int one = Due.row(x, -1);
    Due.is("not finite then", x.residual(big, two, one, 0), -1);
    Due.is("not finite then: greatest", x.greatest(big, two, one), -1);
    Due.isNumber("just finite", x.residual(big, Due.row(x, 1), one, 0), -MAX);
    int low = Due.full(x, new double[][] {{MIN}});
    int v = Due.row(x, 0.25);
    int zero = Due.row(x, 0);
    Due.isNumber("never -0", x.residual(low, v, zero, 0), 0);
    Due.isNumber("but above 0 upward", x.greatest(low, v, zero), MIN);
    Due.isNumber("the least of all", x.greatest(low, Due.row(x, MIN), zero), MIN);
  }

  /** A tie, and a little above or below it, wherever the numbers stand. */
  private static void promise25Ties() {
    for (int e = -70; e <= 70; e++) {
      SystemLab x = new SystemLab();
      double base = Math.scalb(1.0, e);
      int m = Due.full(x, new double[][] {{1, 1, 1}});
      int s = x.vector(3);
      int r = x.vector(1);
      x.set(s, 0, Due.bits(-base));
      x.set(s, 1, Due.bits(-Math.scalb(1.0, e - 53)));
      Due.isNumber("a tie at " + e, x.residual(m, s, r, 0), base);
      Due.isNumber("a tie UP at " + e, x.greatest(m, s, r), Math.nextUp(base));
      for (int low = e - 54 - Math.floorMod(e, 3); low > e - 180; low -= 3) {
        x.set(s, 2, Due.bits(-Math.scalb(1.0, low)));
        Due.isNumber("a little above at " + e + ", " + low, x.residual(m, s, r, 0), Math.nextUp(base));
        x.set(s, 2, Due.bits(Math.scalb(1.0, low)));
        Due.isNumber("a little below at " + e + ", " + low, x.residual(m, s, r, 0), base);
        x.set(s, 1, 0);
        x.set(s, 2, Due.bits(-Math.scalb(1.0, low)));
        Due.isNumber("a little alone UP at " + e + ", " + low, x.greatest(m, s, r), Math.nextUp(base));
        x.set(s, 2, Due.bits(Math.scalb(1.0, low)));
        Due.isNumber("a little less UP at " + e + ", " + low, x.greatest(m, s, r), base);
        x.set(s, 1, Due.bits(-Math.scalb(1.0, e - 53)));
      }
    }
  }

  private static void promise26Greatest() {
    SystemLab x = new SystemLab();
    int m = Due.full(x, new double[][] {{1, 0}, {0, 1}, {1, 1}});
    int s = Due.row(x, 1, 2);
    int r = Due.row(x, 4, -3, 5);
    Due.isNumber("greatest, without sign", x.greatest(m, s, r), 5);
    x.set(r, 0, Due.bits(1));
    x.set(r, 1, Due.bits(2));
    x.set(r, 2, Due.bits(3));
    Due.isNumber("of a solution", x.greatest(m, s, r), 0);
    x.set(s, 0, Due.bits(0x1p-80));
    x.set(s, 1, Due.bits(2));
    Due.isNumber("UP, not the nearest", x.greatest(m, s, Due.row(x, -1, 2, 2)), 1 + 0x1p-52);
    Due.isNumber("UP: itself if a double", x.greatest(m, s, Due.row(x, -1, 2, 0x1p-80)), 2);
    int big = Due.full(x, new double[][] {{MAX, MIN}});
    Due.is("UP of a little above the greatest", x.greatest(big, Due.row(x, -1, -1), Due.row(x, 0)), -1);
    Due.isNumber("residual there", x.residual(big, Due.row(x, -1, -1), Due.row(x, 0), 0), MAX);
    Due.is("no matrix", x.greatest(2, s, r), -1);
    Due.is("r does not fit", x.greatest(m, s, s), -1);
    Due.is("s does not fit", x.greatest(m, r, r), -1);
    Due.is("no s", x.greatest(m, 23, r), -1);
    Due.is("no r", x.greatest(m, s, -1), -1);
  }

  private static void promise27Refine() {
    SystemLab x = new SystemLab();
    int m = Due.full(x, new double[][] {{4, 0}, {0, 4}});
    int near = Due.full(x, new double[][] {{8, 0}, {0, 8}});
    int f = x.factor(near, 1, false);
    int r = Due.row(x, 4, 8);
    int s = Due.row(x, 0, 0);
    Due.is("refine, two rounds", x.refine(m, f, s, r, 2), 2);
    Due.vectorIs("half the way each time", x, s, 0.75, 1.5);
    Due.is("one more", x.refine(m, f, s, r, 1), 1);
    Due.vectorIs("one more", x, s, 0.875, 1.75);
    Due.vectorIs("r stays", x, r, 4, 8);
    int exact = x.factor(m, 3, true);
    Due.is("the exact factor", x.refine(m, exact, s, r, 20), 1);
    Due.vectorIs("solved", x, s, 1, 2);
    Due.is("nothing better", x.refine(m, exact, s, r, 20), 0);
    Due.vectorIs("it stays", x, s, 1, 2);
    int both = Due.row(x, 4, 8);
    Due.is("s and r the same", x.refine(m, exact, both, both, 20), 1);
    Due.vectorIs("solved in its place", x, both, 1, 2);
    int third = Due.full(x, new double[][] {{3}});
    int g = x.factor(third, 0, false);
    int t = Due.row(x, 0);
    Due.is("no round makes it less than the nearest", x.refine(third, g, t, Due.row(x, 1), 20), 1);
    Due.vectorIs("a third", x, t, 1.0 / 3);
  }

  private static void promise27Over() {
    SystemLab x = new SystemLab();
    int m = Due.full(x, new double[][] {{1}});
    int half = Due.full(x, new double[][] {{0.5}});
    int f = x.factor(half, 0, false);
    int s = Due.row(x, 2);
    Due.is("as great as before: it counts not", x.refine(m, f, s, Due.row(x, 3), 20), 0);
    Due.vectorIs("s stays", x, s, 2);
    int tiny = Due.full(x, new double[][] {{0x1p-1000}});
    int g = x.factor(tiny, 0, false);
    Due.is("there is no d", x.refine(m, g, s, Due.row(x, 0x1p500), 5), 0);
    int big = Due.full(x, new double[][] {{MAX}});
    int h = x.factor(big, 0, false);
    int large = Due.row(x, MAX);
    Due.is("the rounded residual is not finite", x.refine(big, h, large, Due.row(x, 1), 5), 0);
    Due.vectorIs("s stays", x, large, MAX);
    for (int k = 0; k < 2; k++) {
      int beyond = Due.full(x, new double[][] {{1, 0}, {0, 1}});
      x.put(beyond, k, k, Due.bits(0x1p1000));
      int v = Due.row(x, 0, 0);
      x.set(v, k, Due.bits(0x1p50));
      int z = Due.row(x, 0, 0);
      Due.is("residual " + k + " is not finite", x.residual(beyond, v, z, k), -1);
      Due.is("it is over then", x.refine(beyond, x.factor(beyond, 0, false), v, z, 5), 0);
      Due.vectorIs("s stays", x, v, k == 0 ? 0x1p50 : 0, k == 0 ? 0 : 0x1p50);
    }
    int two = Due.full(x, new double[][] {{0x1p-1022}});
    int k = x.factor(two, 0, false);
    int up = Due.row(x, MAX);
    Due.is("c + d is not finite", x.refine(two, k, up, Due.row(x, 6), 5), 0);
    Due.vectorIs("s stays", x, up, MAX);
  }

  private static void promise27Refused() {
    SystemLab x = new SystemLab();
    int m = Due.full(x, new double[][] {{1, 0}, {0, 1}});
    int one = Due.full(x, new double[][] {{1}});
    int wide = Due.full(x, new double[][] {{1, 0}});
    int f = x.factor(m, 0, false);
    int g = x.factor(one, 0, false);
    int s = Due.row(x, 0, 0);
    int r = Due.row(x, 1, 1);
    int v = Due.row(x, 1);
    Due.is("rounds 0", x.refine(m, f, s, r, 0), -1);
    Due.is("rounds 21", x.refine(m, f, s, r, 21), -1);
    Due.is("rounds -1", x.refine(m, f, s, r, -1), -1);
    Due.is("another n of the factor", x.refine(m, g, s, r, 1), -1);
    Due.is("not as many rows as columns", x.refine(wide, f, s, v, 1), -1);
    Due.is("not as many rows as columns, n 1", x.refine(wide, g, s, v, 1), -1);
    Due.is("s does not fit", x.refine(m, f, v, r, 1), -1);
    Due.is("r does not fit", x.refine(m, f, s, v, 1), -1);
    Due.is("no matrix", x.refine(9, f, s, r, 1), -1);
    Due.is("no factor", x.refine(m, 2, s, r, 1), -1);
    Due.is("factor -1", x.refine(m, -1, s, r, 1), -1);
    Due.is("no s", x.refine(m, f, 9, r, 1), -1);
    Due.is("no r", x.refine(m, f, s, 9, 1), -1);
    Due.vectorIs("s stays", x, s, 0, 0);
    Due.is("rounds 20", x.refine(m, f, s, r, 20), 1);
  }

  private static void promise28Inverse() {
    SystemLab x = new SystemLab();
    int m = Due.full(x, new double[][] {{0, 2}, {4, 8}});
    for (int method = 1; method < 3; method++) {
      int f = x.factor(m, method, method == 1);
      Due.is("inverse", x.inverse(f), method);
      Due.matrixIs("inverse", x, method, new double[][] {{-1, 0.25}, {0.5, 0}});
    }
    Due.is("it is FULL", x.shape(1, 0), 0);
    int p = Due.full(x, new double[][] {{4, 0}, {2, 2}});
    int r = x.factor(p, 3, false);
    Due.matrixIs("inverse by roots", x, x.inverse(r), new double[][] {{0.5, -0.5}, {-0.5, 1}});
    int third = Due.full(x, new double[][] {{3, 0}, {0, -7}});
    Due.matrixIs("rounded, 0 for -0", x, x.inverse(x.factor(third, 0, false)),
        new double[][] {{1.0 / 3, 0}, {0, -1.0 / 7}});
    int tiny = Due.full(x, new double[][] {{1, 0}, {0, 0x1p-1024}});
    int t = x.factor(tiny, 0, false);
    int n = x.count(0);
    Due.is("no solution", x.inverse(t), -1);
    Due.is("nothing is made", x.count(0), n);
    Due.is("no factor", x.inverse(9), -1);
    Due.is("factor -1", x.inverse(-1), -1);
  }
}
