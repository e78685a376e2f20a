/** What is SOLVED (term III), term IV, and promises 19 to 28, each sentence that names an end or an edge by itself. */
public final class VectorEdgesTest {
  private static final double MAX = Double.MAX_VALUE;
  private static final double MIN = Double.MIN_VALUE;
  private static final int LEAST = Integer.MIN_VALUE;
  private static final int MOST = Integer.MAX_VALUE;
  private static final int[] NONE_OF_24 = {-1, 20, 23, 24, LEAST, MOST};
  private static final int[] NO_FACTOR = {-1, 10, 11, 12, LEAST, MOST};
  private static final int[] NO_PLACE = {-1, 3, 7, 8, LEAST, MOST};

  public static void main(String[] args) {
    Due.runAll(VectorEdgesTest.class);
  }

  private static int factorOf(SystemLab x, int method, boolean fused, double[][] numbers) {
    return x.factor(Due.full(x, numbers), method, fused);
  }

  // ---- III: SOLVED

  private static void termIII_solvedInTheOrderOfRowsAndColumns() {
    Due.says("the vector has z(k) at the place that column k of the order tells");
    SystemLab x = new SystemLab();
    double[][] m = {{0, 0, 4, 0}, {1, 0, 0, 0}, {0, 0, 0, 8}, {0, 2, 0, 0}};
    int r = Due.row(x, 4, 2, 24, 8);
    for (int method = 1; method < 3; method++) {
      Due.vectorIs("METHOD " + method, x, x.solve(factorOf(x, method, false, m), r), 2, 4, 1, 3);
    }
  }

  private static void termIII_solvedStepByStepRounded() {
    Due.says("or FUSED(-w(i, k), y(k), y(i))");
    SystemLab x = new SystemLab();
    double e = 1 + 0x1p-30;
    double[][] m = {{1, 0}, {e, 1}};
    int r = Due.row(x, e, 1 + 0x1p-29 + 0x1p-52);
    Due.vectorIs("not fused", x, x.solve(factorOf(x, 0, false, m), r), e, 0x1p-52);
    Due.vectorIs("fused", x, x.solve(factorOf(x, 0, true, m), r), e, 0x1p-52 - 0x1p-60);
    double[][] up = {{1, e}, {0, 1}};
    int turned = Due.row(x, 1 + 0x1p-29 + 0x1p-52, e);
    Due.vectorIs("not fused, then", x, x.solve(factorOf(x, 0, false, up), turned), 0x1p-52, e);
    Due.vectorIs("fused, then", x, x.solve(factorOf(x, 0, true, up), turned), 0x1p-52 - 0x1p-60, e);
  }

  private static void termIII_solvedByRootsTurnsAbout() {
    Due.says("for k from i + 1 on t = t - h(k, i) * z(k)");
    SystemLab x = new SystemLab();
    int f = factorOf(x, 3, false, new double[][] {{4, 77, 77}, {2, 10, 77}, {-6, 0, 26}});
    Due.vectorIs("by roots", x, x.solve(f, Due.row(x, 4 + 4 - 18, 2 + 20, -6 + 78)), 1, 2, 3);
  }

  private static void noSolution(String call, int method, double[][] numbers, double... r) {
    for (boolean fused : new boolean[] {false, true}) {
      SystemLab x = new SystemLab();
      int f = factorOf(x, method, fused, numbers);
      int v = Due.row(x, r);
      Due.is(call + ": the factor", f, 0);
      Due.is(call, x.solve(f, v), -1);
      Due.is(call + ": nothing was made", x.count(2), 1);
    }
  }

  private static void termIII_noSolutionWhenYIsNotFinite() {
    Due.says("If a number is not finite there is no solution");
    noSolution("y(1)", 0, new double[][] {{1, 0}, {1, 1}}, MAX, -MAX);
    noSolution("y(1) on the way", 0, new double[][] {{1, 0, 0}, {0, 1, 0}, {1, -1, 1}}, MAX, MAX, -MAX);
    noSolution("y(2) of three", 0, new double[][] {{1, 0, 0}, {0, 1, 0}, {0, 4, 1}}, 0, MAX, 0);
    noSolution("t / h by roots", 3, new double[][] {{0x1p-100, 0}, {0, 1}}, MAX, 0);
    noSolution("t by roots", 3, new double[][] {{1, 0}, {1, 2}}, MAX, -MAX);
  }

  private static void termIII_noSolutionWhenTOrZIsNotFinite() {
    Due.says("If a number is not finite there is no solution");
    noSolution("z(1)", 0, new double[][] {{1, 0}, {0, 0.5}}, 0, MAX);
    noSolution("z(0)", 0, new double[][] {{0.5, 0}, {0, 1}}, MAX, 0);
    noSolution("t", 0, new double[][] {{1, 1}, {0, 1}}, -MAX, MAX);
    noSolution("t on the way", 0, new double[][] {{1, 1, -1}, {0, 1, 0}, {0, 0, 1}}, -MAX, MAX, MAX);
    noSolution("t by roots, turned about", 3, new double[][] {{1, 0}, {1, 1.25}}, -MAX, -MAX / 4 * 3);
    noSolution("z by roots", 3, new double[][] {{0x1p-10, 0}, {0, 1}}, 0x1p1016, 0);
  }

  private static void termIII_aSolutionJustFinite() {
    Due.says("If a number is not finite there is no solution");
    SystemLab x = new SystemLab();
    int f = factorOf(x, 0, false, new double[][] {{0.5, 0}, {0, 1}});
    Due.vectorIs("the greatest", x, x.solve(f, Due.row(x, MAX / 2, -MAX)), MAX, -MAX);
    int g = factorOf(x, 0, true, new double[][] {{1, MAX}, {0, 1}});
    Due.vectorIs("a product alone is not finite, fused", x, x.solve(g, Due.row(x, MAX, 2)), -MAX, 2);
    int h = factorOf(x, 0, false, new double[][] {{1, MAX}, {0, 1}});
    Due.is("not fused", x.solve(h, Due.row(x, MAX, 2)), -1);
  }

  // ---- IV

  private static void termIV_vectors0To23() {
    Due.says("VECTORS 0 .. 23");
    SystemLab x = new SystemLab();
    for (int k = 0; k < 24; k++) {
      Due.is("vector", x.vector(1), k);
    }
    Due.is("the last is there", x.value(23, 0), 0);
    Due.is("none beyond", x.value(24, 0), -1);
    Due.is("none ahead", x.value(-1, 0), -1);
  }

  private static void termIV_of1To8Numbers() {
    Due.says("of 1 to 8 numbers");
    SystemLab x = new SystemLab();
    for (int n = 1; n <= 8; n++) {
      int v = x.vector(n);
      Due.is("the last of " + n, x.set(v, n - 1, Due.bits(n)), true);
      Due.is("one beyond", x.set(v, n, Due.bits(n)), false);
    }
    for (int n : new int[] {0, 9, -1, LEAST, MOST}) {
      Due.is("vector of " + n, x.vector(n), -1);
    }
  }

  private static void termIV_residualIsExact() {
    Due.says("r(i) less the sum of x(i, j) * s(j), exact");
    SystemLab x = new SystemLab();
    int m = Due.full(x, new double[][] {{MAX, -MAX, 1, MIN}});
    int s = Due.row(x, MAX, MAX, 0x1p-53, MIN);
    int r = Due.row(x, 1 + 0x1p-52);
    Due.isNumber("as near but for what is least of all", x.residual(m, s, r, 0), 1);
    x.set(s, 3, Due.bits(-MIN));
    Due.isNumber("and a little above", x.residual(m, s, r, 0), 1 + 0x1p-52);
    x.set(s, 3, 0);
    Due.isNumber("as near: the even one", x.residual(m, s, r, 0), 1);
    x.set(r, 0, 0);
    Due.isNumber("the sum turned", x.residual(m, s, r, 0), -0x1p-53);
  }

  private static void termIV_itsGreatestIsWithoutSign() {
    Due.says("Its GREATEST is that without sign");
    SystemLab x = new SystemLab();
    int m = Due.diagonal(x, 1, 1, 1);
    int s = x.vector(3);
    Due.isNumber("the first", x.greatest(m, s, Due.row(x, -5, 4, 3)), 5);
    Due.isNumber("the second", x.greatest(m, s, Due.row(x, 1, -6, 5)), 6);
    Due.isNumber("the last", x.greatest(m, s, Due.row(x, 1, 2, 7)), 7);
    Due.isNumber("of 0s", x.greatest(m, s, Due.row(x, 0, 0, 0)), 0);
  }

  /** M is 1, F solves as if it were q: each round c comes to c + (r - c) / q. */
  private static int refineOne(SystemLab x, double q, double c, double r, int rounds) {
    int m = Due.one(x, 1);
    int f = x.factor(Due.one(x, q), 0, false);
    return x.refine(m, f, Due.row(x, c), Due.row(x, r), rounds);
  }

  private static void termIV_refinedUpToSoManyRounds() {
    Due.says("REFINED, up to so many rounds");
    for (int rounds = 1; rounds <= 20; rounds++) {
      SystemLab x = new SystemLab();
      Due.is("rounds " + rounds, refineOne(x, 2, 0, 1, rounds), rounds);
      Due.isNumber("c", x.value(0, 0), 1 - Math.scalb(1.0, -rounds));
    }
  }

  private static void termIV_refinedIsOverWithoutD() {
    Due.says("if there is no d");
    SystemLab x = new SystemLab();
    Due.is("no d", refineOne(x, 0x1p-1000, 0, 0x1p100, 5), 0);
    Due.isNumber("c stays", x.value(0, 0), 0);
    Due.is("just a d", refineOne(x, 0x1p-20, 0, 0x1p1003, 5), 0);
    int m = Due.diagonal(x, 4, 1);
    int f = x.factor(Due.diagonal(x, 4, 1), 0, false);
    Due.is("a d of this", x.refine(m, f, Due.row(x, 0, 0), Due.row(x, MAX, MAX), 5), 1);
  }

  private static void termIV_refinedIsOverWhenTheSumIsNotFinite() {
    Due.says("or a number (of the rounded RESIDUAL too) is not finite");
    SystemLab x = new SystemLab();
    int m = Due.one(x, 0x1p-1022);
    int f = x.factor(m, 0, false);
    int s = Due.row(x, MAX);
    Due.is("c + d is not finite", x.refine(m, f, s, Due.row(x, 5), 5), 0);
    Due.isNumber("c stays", x.value(s, 0), MAX);
    int two = Due.diagonal(x, 1, 0x1p-1022);
    int both = Due.row(x, 1, MAX);
    Due.is("one of two", x.refine(two, x.factor(two, 0, false), both, Due.row(x, 2, 5), 5), 0);
    Due.vectorIs("both stay", x, both, 1, MAX);
  }

  private static void termIV_refinedIsOverWhenARoundedResidualIsNotFinite() {
    Due.says("(of the rounded RESIDUAL too)");
    for (int k = 0; k < 4; k++) {
      SystemLab x = new SystemLab();
      double[] numbers = {k % 2 == 0 ? 2 : 1, k % 2 == 0 ? 1 : 2};
      int m = Due.diagonal(x, numbers);
      int f = x.factor(Due.diagonal(x, 0x1p20, 0x1p20), k < 2 ? 0 : 3, false);
      double first = k % 2 == 0 ? MAX : 0;
      int s = Due.row(x, first, MAX - first);
      int r = Due.row(x, 1, 1);
      Due.is("it is not finite", x.residual(m, s, r, k % 2), -1);
      Due.is("it is over", x.refine(m, f, s, r, 5), 0);
      Due.vectorIs("s stays", x, s, first, MAX - first);
    }
  }

  private static void termIV_refinedCountsNotARoundAsGreat() {
    Due.says("or the GREATEST of that is not less than that of c, it is over, and the round counts not");
    SystemLab x = new SystemLab();
    Due.is("as great", refineOne(x, 0.5, 0, 1, 5), 0);
    Due.isNumber("c stays", x.value(0, 0), 0);
    SystemLab y = new SystemLab();
    Due.is("greater", refineOne(y, 0.25, 0, 1, 5), 0);
    Due.isNumber("c stays", y.value(0, 0), 0);
    SystemLab z = new SystemLab();
    Due.is("0 is not less than 0", refineOne(z, 1, 1, 1, 5), 0);
    Due.isNumber("c stays", z.value(0, 0), 1);
  }

  private static void termIV_refinedCountsARoundALittleLess() {
    Due.says("is not less than that of c");
    SystemLab x = new SystemLab();
    int m = Due.full(x, new double[][] {{1, 0x1p-80}, {0, 1}});
    int f = x.factor(Due.diagonal(x, 0x1p1000, 2), 0, false);
    int s = Due.row(x, 1, -0.5);
    int r = Due.row(x, 2, 0);
    Due.isNumber("GREATEST before", x.greatest(m, s, r), 1 + 0x1p-52);
    Due.is("less by less than any double shows", x.refine(m, f, s, r, 20), 20);
    Due.isNumber("GREATEST after, UP the same", x.greatest(m, s, r), 1 + 0x1p-52);
    Due.vectorIs("refined", x, s, 1, -0x1p-21);
  }

  private static void termIV_refinedIsOverAfterSomeRounds() {
    Due.says("else c is that");
    SystemLab x = new SystemLab();
    int m = Due.one(x, 3);
    int f = x.factor(Due.one(x, 4), 0, false);
    int s = Due.row(x, 0);
    int r = Due.row(x, 1);
    int counted = x.refine(m, f, s, r, 20);
    Due.is("rounds", counted, 20);
    int more = x.refine(m, f, s, r, 20);
    Due.is("then it is over", more < 20, true);
    Due.isNumber("at the nearest", x.value(s, 0), 1.0 / 3);
    Due.is("and stays", x.refine(m, f, s, r, 20), 0);
  }

  // ---- 19

  private static void promise19_of0sAlsoWhereAnotherStood() {
    Due.says("A vector of n 0s: its number");
    SystemLab x = new SystemLab();
    Due.row(x, 1, 2, 3, 4, 5, 6, 7, 8);
    x.forget(0);
    Due.is("vector", x.vector(8), 0);
    Due.vectorIs("of 0s", x, 0, 0, 0, 0, 0, 0, 0, 0, 0);
  }

  private static void promise19_noneWhenNIsNot1To8() {
    Due.says("NONE when n is not 1 .. 8");
    SystemLab x = new SystemLab();
    for (int n : new int[] {0, 9, -1, 16, LEAST, MOST}) {
      Due.is("vector(" + n + ")", x.vector(n), -1);
    }
    Due.is("vector(1)", x.vector(1), 0);
    Due.is("vector(8)", x.vector(8), 1);
    Due.is("two are there", x.count(2), 2);
  }

  private static void promise19_noneWhenThereAre24() {
    Due.says("or there are 24");
    SystemLab x = new SystemLab();
    Due.crowdVectors(x);
    Due.is("the 25th", x.vector(1), -1);
    Due.is("24 are there", x.count(2), 24);
    x.forget(23);
    Due.is("when the last is gone", x.vector(1), 23);
  }

  // ---- 20

  private static void promise20_falseWhenThereIsNoneSuch() {
    Due.says("A vector goes: true; false when there is none such");
    SystemLab x = new SystemLab();
    Due.crowdVectors(x);
    for (int v : new int[] {20, 0, 23}) {
      Due.is("forget " + v, x.forget(v), true);
      Due.is("forget again", x.forget(v), false);
      Due.is("it is gone", x.size(v), -1);
    }
    for (int v : NONE_OF_24) {
      Due.is("forget " + v, x.forget(v), false);
    }
    Due.is("21 stay", x.count(2), 21);
  }

  // ---- 21

  private static void promise21_aNumberBecomesThat() {
    Due.says("A vector's number becomes that: true");
    SystemLab x = new SystemLab();
    x.vector(8);
    for (int i = 0; i < 8; i++) {
      Due.is("set at " + i, x.set(0, i, Due.bits(i - 9)), true);
    }
    Due.vectorIs("they are there", x, 0, -9, -8, -7, -6, -5, -4, -3, -2);
    Due.is("set -0", x.set(0, 7, Due.bits(-0.0)), true);
    Due.isNumber("it became 0", x.value(0, 7), 0);
  }

  private static void promise21_falseWhenThereIsNoneSuch() {
    Due.says("false when there is none such");
    SystemLab x = new SystemLab();
    Due.row(x, 1, 2, 3);
    for (int v : NONE_OF_24) {
      Due.is("set of " + v, x.set(v, 0, Due.bits(9)), false);
    }
    for (int i : NO_PLACE) {
      Due.is("set at " + i, x.set(0, i, Due.bits(9)), false);
    }
    Due.vectorIs("it stays", x, 0, 1, 2, 3);
    Due.is("the last", x.set(0, 2, Due.bits(9)), true);
    Due.vectorIs("it became that", x, 0, 1, 2, 9);
  }

  private static void promise21_falseWhenItIsNotFinite() {
    Due.says("or it is not finite");
    SystemLab x = new SystemLab();
    Due.row(x, 7);
    long infinite = Due.bits(Double.POSITIVE_INFINITY);
    for (long bits : new long[] {infinite, infinite | Long.MIN_VALUE, infinite + 1, -1L, Long.MAX_VALUE}) {
      Due.is("set " + bits, x.set(0, 0, bits), false);
      Due.isNumber("it stays", x.value(0, 0), 7);
    }
    Due.is("the greatest", x.set(0, 0, infinite - 1), true);
    Due.isNumber("the greatest", x.value(0, 0), MAX);
  }

  // ---- 22, 23

  private static void promise22_noneWhenThereIsNoneSuch() {
    Due.says("-1 when there is none such");
    SystemLab x = new SystemLab();
    Due.row(x, 1, 2, 3);
    for (int v : NONE_OF_24) {
      Due.is("value of " + v, x.value(v, 0), -1);
    }
    for (int i : NO_PLACE) {
      Due.is("value at " + i, x.value(0, i), -1);
    }
    Due.isNumber("the last", x.value(0, 2), 3);
  }

  private static void promise23_noneWhenThereIsNoneSuch() {
    Due.says("NONE when there is none such");
    SystemLab x = new SystemLab();
    Due.row(x, 1, 2, 3);
    for (int v : NONE_OF_24) {
      Due.is("size of " + v, x.size(v), -1);
    }
    Due.is("size", x.size(0), 3);
    x.forget(0);
    Due.is("size of one that is gone", x.size(0), -1);
  }

  // ---- 24

  private static void promise24_aNewVector() {
    Due.says("SOLVED: a new vector");
    SystemLab x = new SystemLab();
    int f = factorOf(x, 0, false, new double[][] {{2}});
    int r = Due.row(x, 4);
    Due.is("solve", x.solve(f, r), 1);
    Due.vectorIs("the new one", x, 1, 2);
    Due.vectorIs("r stays", x, r, 4);
    Due.is("of the new one", x.solve(f, 1), 2);
    Due.vectorIs("that", x, 2, 1);
  }

  private static void promise24_noneWhenNoSuchFactor() {
    Due.says("NONE: no such FACTOR");
    SystemLab x = new SystemLab();
    x.release(factorOf(x, 0, false, new double[][] {{2}}));
    int r = Due.row(x, 4);
    Due.is("one that is gone", x.solve(0, r), -1);
    for (int f : NO_FACTOR) {
      Due.is("solve by " + f, x.solve(f, r), -1);
    }
  }

  private static void promise24_noneWhenNoSuchVector() {
    Due.says("no such FACTOR, vector");
    SystemLab x = new SystemLab();
    int f = factorOf(x, 0, false, new double[][] {{2}});
    for (int v : NONE_OF_24) {
      Due.is("solve for " + v, x.solve(f, v), -1);
    }
  }

  private static void promise24_noneWhenItHasNotNNumbers() {
    Due.says("it has not n numbers");
    SystemLab x = new SystemLab();
    int f = factorOf(x, 0, false, new double[][] {{2, 0}, {0, 2}});
    Due.is("one", x.solve(f, Due.row(x, 1)), -1);
    Due.is("three", x.solve(f, Due.row(x, 1, 2, 3)), -1);
    Due.is("eight", x.solve(f, x.vector(8)), -1);
    Due.is("two", x.solve(f, Due.row(x, 1, 2)), 4);
  }

  private static void promise24_noneWhenThereIsNoSolution() {
    Due.says("there is no solution");
    SystemLab x = new SystemLab();
    int f = factorOf(x, 0, false, new double[][] {{0.5}});
    Due.is("no solution", x.solve(f, Due.row(x, MAX)), -1);
    Due.is("nothing was made", x.count(2), 1);
    Due.is("just one", x.solve(f, Due.row(x, MAX / 2)), 2);
  }

  private static void promise24_noneWhenThereAre24() {
    Due.says("there is no solution, or there are 24");
    SystemLab x = new SystemLab();
    int f = factorOf(x, 0, false, new double[][] {{0.5}});
    Due.crowdVectors(x);
    Due.is("solve beside 24", x.solve(f, 0), -1);
    x.forget(23);
    Due.is("solve beside 23", x.solve(f, 0), 23);
  }

  // ---- 25, 26

  /** Matrix 0 of 2 rows, 3 columns; vectors 0 of 3, 1 of 2; both are called likewise. */
  private static SystemLab forResidual() {
    SystemLab x = new SystemLab();
    Due.full(x, new double[][] {{1, 2, 3}, {4, 5, 6}});
    Due.row(x, 1, 1, 1);
    Due.row(x, 7, 17);
    return x;
  }

  private static void refusedFor(SystemLab x, int m, int s, int r) {
    Due.is("residual(" + m + ", " + s + ", " + r + ", 0)", x.residual(m, s, r, 0), -1);
    Due.is("greatest(" + m + ", " + s + ", " + r + ")", x.greatest(m, s, r), -1);
  }

  private static void promise25_neverMinusZero() {
    Due.says("Number i of the RESIDUAL, ROUNDED (never -0): BITS");
    SystemLab x = new SystemLab();
    int m = Due.one(x, MIN);
    int zero = Due.row(x, 0);
    Due.isNumber("below 0, above all doubles", x.residual(m, Due.row(x, 0.5), zero, 0), 0);
    Due.isNumber("just the least", x.residual(m, Due.row(x, Math.nextUp(0.5)), zero, 0), -MIN);
    Due.isNumber("far below all doubles", x.residual(m, Due.row(x, MIN), zero, 0), 0);
    Due.isNumber("0", x.residual(m, zero, zero, 0), 0);
    Due.isNumber("of what comes to 0", x.residual(Due.one(x, -3), Due.row(x, 1), Due.row(x, -3), 0), 0);
  }

  private static void promise25_noneWhenNoSuchOnes() {
    Due.says("-1: no such ones");
    SystemLab x = forResidual();
    for (int k : NONE_OF_24) {
      Due.is("matrix " + k, x.residual(k, 0, 1, 0), -1);
      Due.is("s " + k, x.residual(0, k, 1, 0), -1);
      Due.is("r " + k, x.residual(0, 0, k, 0), -1);
    }
    Due.isNumber("all there", x.residual(0, 0, 1, 0), 1);
  }

  private static void promise25_noneWhenTheyDoNotFit() {
    Due.says("they do not fit");
    SystemLab x = forResidual();
    refusedFor(x, 0, 1, 1);
    refusedFor(x, 0, 0, 0);
    refusedFor(x, 0, 1, 0);
    refusedFor(x, 0, x.vector(4), 1);
    refusedFor(x, 0, 0, x.vector(1));
    Due.isNumber("they fit", x.residual(0, 0, 1, 1), 2);
  }

  private static void promise25_noneWhenNoSuchI() {
    Due.says("no such i");
    SystemLab x = forResidual();
    for (int i : new int[] {-1, 2, 3, 7, 8, LEAST, MOST}) {
      Due.is("residual " + i, x.residual(0, 0, 1, i), -1);
    }
    Due.isNumber("the last", x.residual(0, 0, 1, 1), 2);
  }

  private static void promise25_noneWhenItIsNotFiniteThen() {
    Due.says("or it is not finite then");
    SystemLab x = new SystemLab();
    int m = Due.one(x, -1);
    int r = Due.row(x, MAX);
    Due.is("half a step above the greatest", x.residual(m, Due.row(x, 0x1p970), r, 0), -1);
    Due.isNumber("a little below it", x.residual(m, Due.row(x, Math.nextDown(0x1p970)), r, 0), MAX);
    Due.is("below all", x.residual(m, Due.row(x, -0x1p970), Due.row(x, -MAX), 0), -1);
    int two = Due.diagonal(x, -1, -1);
    int s = Due.row(x, MAX, 1);
    int t = Due.row(x, MAX, 1);
    Due.is("the first is not finite", x.residual(two, s, t, 0), -1);
    Due.isNumber("the other is", x.residual(two, s, t, 1), 2);
  }

  private static void promise26_upOfTheGreatest() {
    Due.says("UP of the GREATEST of the RESIDUAL: BITS");
    SystemLab x = new SystemLab();
    int m = Due.full(x, new double[][] {{1, 1}, {1, -1}});
    int s = Due.row(x, 1, 0x1p-60);
    Due.isNumber("1 + 2^-60", x.greatest(m, s, Due.row(x, 0, 0)), 1 + 0x1p-52);
    int less = Due.diagonal(x, 1, 1);
    Due.isNumber("a double: itself", x.greatest(less, s, Due.row(x, 0, 0)), 1);
    Due.isNumber("below all doubles", x.greatest(Due.one(x, -MIN), Due.row(x, MIN), Due.row(x, 0)), MIN);
  }

  private static void promise26_noneLikewise() {
    Due.says("-1 likewise");
    SystemLab x = forResidual();
    for (int k : NONE_OF_24) {
      refusedFor(x, k, 0, 1);
      refusedFor(x, 0, k, 1);
      refusedFor(x, 0, 0, k);
    }
    Due.isNumber("all there", x.greatest(0, 0, 1), 2);
  }

  private static void promise26_noneWhenItIsNotFiniteThen() {
    Due.says("-1 likewise");
    SystemLab x = new SystemLab();
    int m = Due.one(x, -1);
    Due.isNumber("the greatest", x.greatest(m, Due.row(x, 0), Due.row(x, MAX)), MAX);
    Due.is("UP of a little above it", x.greatest(m, Due.row(x, MIN), Due.row(x, MAX)), -1);
    Due.is("below 0, without sign", x.greatest(m, Due.row(x, -MIN), Due.row(x, -MAX)), -1);
    Due.isNumber("ROUNDED it is finite", x.residual(m, Due.row(x, MIN), Due.row(x, MAX), 0), MAX);
  }

  // ---- 27

  /** Matrix 0 of 2 rows, FACTOR 0 of it, vectors 0 and 1 of 2. */
  private static SystemLab forRefine() {
    SystemLab x = new SystemLab();
    x.factor(Due.diagonal(x, 2, 4), 0, false);
    Due.row(x, 5, 5);
    Due.row(x, 2, 4);
    return x;
  }

  private static void notRefined(SystemLab x, int m, int f, int s, int r, int rounds) {
    Due.is("refine(" + m + ", " + f + ", " + s + ", " + r + ", " + rounds + ")", x.refine(m, f, s, r, rounds), -1);
  }

  private static void promise27_noneWhenNoSuchOnes() {
    Due.says("NONE: no such ones");
    SystemLab x = forRefine();
    for (int k : NONE_OF_24) {
      notRefined(x, k, 0, 0, 1, 5);
      notRefined(x, 0, 0, k, 1, 5);
      notRefined(x, 0, 0, 0, k, 5);
    }
    for (int k : NO_FACTOR) {
      notRefined(x, 0, k, 0, 1, 5);
    }
    Due.vectorIs("s stays", x, 0, 5, 5);
    Due.is("all there", x.refine(0, 0, 0, 1, 5), 1);
    Due.vectorIs("refined in its place", x, 0, 1, 1);
  }

  private static void promise27_noneWhenTheyDoNotFit() {
    Due.says("they do not fit");
    SystemLab x = forRefine();
    int one = Due.row(x, 1);
    int three = Due.row(x, 1, 1, 1);
    int f1 = x.factor(Due.one(x, 1), 0, false);
    int f3 = x.factor(Due.diagonal(x, 1, 1, 1), 0, false);
    int wide = Due.full(x, new double[][] {{1, 2, 3}, {4, 5, 6}});
    int tall = x.transpose(wide);
    for (int v : new int[] {one, three}) {
      notRefined(x, 0, 0, v, 1, 5);
      notRefined(x, 0, 0, 0, v, 5);
      notRefined(x, 0, 0, v, v, 5);
    }
    for (int f : new int[] {0, f1, f3}) {
      notRefined(x, wide, f, three, 1, 5);
      notRefined(x, tall, f, 1, three, 5);
    }
    notRefined(x, 0, f1, 0, 1, 5);
    notRefined(x, 0, f3, 0, 1, 5);
    Due.vectorIs("s stays", x, 0, 5, 5);
  }

  private static void promise27_noneWhenRoundsIsNot1To20() {
    Due.says("rounds is not 1 .. 20");
    SystemLab x = forRefine();
    for (int rounds : new int[] {0, 21, -1, LEAST, MOST}) {
      notRefined(x, 0, 0, 0, 1, rounds);
    }
    Due.vectorIs("s stays", x, 0, 5, 5);
    Due.is("rounds 1", x.refine(0, 0, 0, 1, 1), 1);
    Due.is("rounds 20", x.refine(0, 0, 0, 1, 20), 0);
  }

  private static void promise27_inItsPlace() {
    Due.says("A vector s is REFINED in its place for a matrix, a FACTOR and a vector r: how many rounds counted");
    SystemLab x = forRefine();
    Due.is("one round", x.refine(0, 0, 0, 1, 20), 1);
    Due.vectorIs("s", x, 0, 1, 1);
    Due.vectorIs("r stays", x, 1, 2, 4);
    Due.is("no vector more", x.count(2), 2);
    int both = Due.row(x, 6, 8);
    Due.is("s is r too", x.refine(0, 0, both, both, 20), 1);
    Due.vectorIs("solved for r as it was", x, both, 3, 2);
  }

  // ---- 28

  private static void promise28_columnsSolvedMinusZeroBecomes0() {
    Due.says("column k is what the FACTOR SOLVES for the vector with 1 at k, else 0 (-0 becomes 0)");
    SystemLab x = new SystemLab();
    double[][] m = {{0, 2, 0}, {-4, 0, 0}, {0, 0, -8}};
    double[][] inverse = {{0, -0.25, 0}, {0.5, 0, 0}, {0, 0, -0.125}};
    for (int method = 1; method < 3; method++) {
      Due.matrixIs("METHOD " + method, x, x.inverse(factorOf(x, method, false, m)), inverse);
    }
    int f = factorOf(x, 0, false, new double[][] {{-1, 0}, {2, -4}});
    Due.matrixIs("a column, not a row", x, x.inverse(f), new double[][] {{-1, 0}, {-0.5, -0.25}});
  }

  private static void promise28_noneWhenThereIsNoSuchFactor() {
    Due.says("NONE: there is no such FACTOR");
    SystemLab x = forRefine();
    x.release(x.factor(0, 1, false));
    Due.is("one that is gone", x.inverse(1), -1);
    for (int f : NO_FACTOR) {
      Due.is("inverse of " + f, x.inverse(f), -1);
    }
    Due.is("nothing was made", x.count(0), 1);
  }

  private static void promise28_noneWhenThereIsNoSolution() {
    Due.says("no solution");
    for (int k = 0; k < 3; k++) {
      SystemLab x = new SystemLab();
      double[] numbers = {1, 1, 1};
      numbers[k] = 0x1p-1024;
      int f = x.factor(Due.diagonal(x, numbers), 0, false);
      Due.is("column " + k, x.inverse(f), -1);
      Due.is("nothing was made", x.count(0), 1);
      numbers[k] = Math.nextUp(0x1p-1024);
      Due.is("just finite", x.inverse(x.factor(Due.diagonal(x, numbers), 0, false)), 2);
    }
  }

  private static void promise28_noneWhenThereAre24() {
    Due.says("no solution, or there are 24");
    SystemLab x = forRefine();
    Due.crowdMatrices(x);
    Due.is("inverse beside 24", x.inverse(0), -1);
    x.drop(23);
    Due.is("inverse beside 23", x.inverse(0), 23);
  }
}
