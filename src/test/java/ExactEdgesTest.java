/** Term V, and promises 29 to 38, each sentence that names an end or an edge by itself. */
public final class ExactEdgesTest {
  private static final double MAX = Double.MAX_VALUE;
  private static final double MIN = Double.MIN_VALUE;
  private static final double EPS = 0x1p-52;
  private static final double OFF = 0x1p-61;
  private static final double FAR = Math.nextUp(0x1p40);
  private static final int LEAST = Integer.MIN_VALUE;
  private static final int MOST = Integer.MAX_VALUE;
  private static final int[] NONE_OF_24 = {-1, 20, 23, 24, LEAST, MOST};

  public static void main(String[] args) {
    Due.runAll(ExactEdgesTest.class);
  }

  // ---- V: the LATTICE alone, and null vectors

  private static void termV_aMatrixAndVectorsOnTheLatticeAlone() {
    Due.says("EXACTLY (a matrix and vectors on the LATTICE alone)");
    for (double d : new double[] {OFF, 0x1.8p-60, FAR, -FAR}) {
      SystemLab x = new SystemLab();
      int m = Due.full(x, new double[][] {{1, 1}, {1, d}});
      int r = Due.row(x, 1, 1);
      Due.is("exactly " + d, x.exactly(m, r), -1);
      Due.is("rank " + d, x.rank(m), -1);
      Due.is("nullVector " + d, x.nullVector(m, 0), -1);
      Due.is("determinant " + d, x.determinant(m), -1);
      Due.is("digits " + d, x.digits(m, 3), 0);
      Due.is("condition " + d, x.condition(m), -1);
      x.put(m, 1, 1, Due.bits(1));
      x.set(r, 0, Due.bits(d));
      Due.is("the vector " + d, x.exactly(m, r), -1);
      Due.is("rank on it", x.rank(m), 1);
    }
  }

  private static void termV_freeIfItIsASumOfMultiplesOfThoseAhead() {
    Due.says("one is FREE if it is a sum of multiples of those ahead of it that are not FREE");
    SystemLab x = new SystemLab();
    int m = Due.full(x, new double[][] {{1, 2, 0, 3}, {1, 2, 1, 4}});
    Due.vectorIs("column 1", x, x.nullVector(m, 0), -2, 1, 0, 0);
    Due.vectorIs("column 3", x, x.nullVector(m, 1), -3, 0, -1, 1);
    Due.is("no more", x.nullVector(m, 2), -1);
    Due.is("and the rank", x.rank(m), 2);
  }

  private static void termV_aFirstColumnOf0sIsFree() {
    Due.says("with the columns gone over from 0 on");
    SystemLab x = new SystemLab();
    int m = Due.full(x, new double[][] {{0, 5, 0}});
    Due.vectorIs("column 0", x, x.nullVector(m, 0), 1, 0, 0);
    Due.vectorIs("column 2", x, x.nullVector(m, 1), 0, 0, 1);
    Due.is("no more", x.nullVector(m, 2), -1);
    int zero = x.matrix(0, 8, 8, 0, 0);
    for (int k = 0; k < 8; k++) {
      int v = x.nullVector(zero, k);
      for (int i = 0; i < 8; i++) {
        Due.isNumber("of 0s, null vector " + k + " at " + i, x.value(v, i), i == k ? 1 : 0);
      }
    }
    Due.is("of 0s no more", x.nullVector(zero, 8), -1);
  }

  private static void termV_nullVectorHas0AtTheOtherFreeColumns() {
    Due.says("null vector k has 1 at the k-th FREE column, 0 at the other FREE ones");
    SystemLab x = new SystemLab();
    int m = Due.full(x, new double[][] {{2, 4, 6, 8, 10}});
    for (int k = 0; k < 4; k++) {
      double[] want = {-(k + 2), 0, 0, 0, 0};
      want[k + 1] = 1;
      Due.vectorIs("null vector " + k, x, x.nullVector(m, k), want);
    }
  }

  private static void termV_nullVectorMakesTheProduct0() {
    Due.says("and at the others what makes the product 0");
    SystemLab x = new SystemLab();
    int m = Due.full(x, new double[][] {{3, 0, 1}, {0, -7, 1}, {3, 0, 1}});
    Due.vectorIs("each rounded", x, x.nullVector(m, 0), -1.0 / 3, 1.0 / 7, 1);
    int near = Due.full(x, new double[][] {{1 + EPS, 1}, {1, 1 - EPS}});
    Due.is("near, but none", x.nullVector(near, 0), -1);
  }

  // ---- V: CONDITION, GAP, BOUND

  private static void termV_conditionOfRowSumsWithoutSign() {
    Due.says("the greatest row sum (of numbers without sign) of it times that of its inverse");
    SystemLab x = new SystemLab();
    Due.isNumber("rows, not columns", x.condition(Due.full(x, new double[][] {{1, -3}, {0, 1}})), 16);
    Due.isNumber("without sign", x.condition(Due.full(x, new double[][] {{-2, 0}, {0, -4}})), 2);
    Due.isNumber("the last row", x.condition(Due.full(x, new double[][] {{1, 0}, {2, -2}})), 6);
  }

  /** The GAP of a matrix to the matrix with 1s. */
  private static long gapToOne(SystemLab x, double... numbers) {
    int p = Due.full(x, new double[][] {{numbers[0], numbers[1]}, {numbers[2], numbers[3]}});
    return x.gap(p, Due.diagonal(x, 1, 1));
  }

  private static void termV_gapIsTheGreatestRowSumWithoutSigns() {
    Due.says("the greatest row sum, without signs, of what the product x times w (exact) lacks");
    SystemLab x = new SystemLab();
    Due.isNumber("row 0", gapToOne(x, 0.5, -0.25, 0, 1), 0.75);
    Due.isNumber("row 1", gapToOne(x, 1, 0, 0.25, 1.75), 1);
    Due.isNumber("none", gapToOne(x, 1, 0, 0, 1), 0);
    Due.isNumber("not a column sum", gapToOne(x, 1.5, 0, 0.5, 1), 0.5);
  }

  private static void termV_gapThenUp() {
    Due.says("then UP");
    SystemLab x = new SystemLab();
    Due.isNumber("a little above 1", gapToOne(x, 1, MIN, 0, 2 + 0x1p-51), 1 + 2 * EPS);
    Due.isNumber("sums are exact, then UP", gapToOne(x, 2, MIN, 0, 1), 1 + EPS);
    Due.isNumber("a little below 1", gapToOne(x, MIN, 0, 0, 1), 1);
    int p = Due.full(x, new double[][] {{1, MIN}, {0, 0x1p60}});
    Due.isNumber("below all doubles", x.gap(p, Due.diagonal(x, 1, 0x1p-60)), MIN);
  }

  /** A BOUND for matrices of one number, for s 0. */
  private static long boundOf(double x, double w, double r) {
    SystemLab lab = new SystemLab();
    return lab.bound(Due.one(lab, x), Due.one(lab, w), lab.vector(1), Due.row(lab, r));
  }

  private static double steps(double g, double n, double r) {
    return Math.nextUp(Math.nextUp(n * r) / Math.nextDown(1 - g));
  }

  private static void termV_boundMinus1WhenGIsNotBelow1() {
    Due.says("-1.0 if g is not below 1");
    Due.isNumber("g is 1", boundOf(0, 1, 1), -1);
    Due.isNumber("g is above 1", boundOf(-1, 1, 1), -1);
    Due.isNumber("UP it is 1", boundOf(0x1p-54, 1, 1), -1);
    Due.isNumber("g is just below 1", boundOf(0x1p-53, 1, 1), steps(1 - 0x1p-53, Math.nextUp(0x1p-53), 1));
    Due.isNumber("g is just below 1, from above", boundOf(2 - 0x1p-52, 1, 1), steps(1 - EPS, 2, 1));
    Due.isNumber("g is 1, from above", boundOf(2, 1, 1), -1);
  }

  private static void termV_boundNIsTheNextAboveInEachStep() {
    Due.says("t = 0, and for each of its numbers in order t = the next double above t + |it|; the greatest t");
    SystemLab x = new SystemLab();
    int w = Due.diagonal(x, 1, 1, 1);
    int p = Due.full(x, new double[][] {{1, -0.25, 0x1p-53}, {0, 1, 0}, {-0.125, 0, 1}});
    int s = x.vector(3);
    int r = Due.row(x, 0, 0, -3);
    double n = Math.nextUp(Math.nextUp(Math.nextUp(1.0) + 0.25) + 0x1p-53);
    Due.isNumber("its gap", x.gap(p, w), 0.25 + 0x1p-53);
    Due.isNumber("row 0", x.bound(p, w, s, r), steps(0.25 + 0x1p-53, n, 3));
    int turned = Due.full(x, new double[][] {{1, 0, 0}, {0, 1, 0}, {0x1p-53, 0.25, 1}});
    double last = Math.nextUp(Math.nextUp(Math.nextUp(0x1p-53) + 0.25) + 1);
    Due.isNumber("the last row, in order", x.bound(turned, w, s, r), steps(0.25 + 0x1p-53, last, 3));
    Due.is("the two are not the same", n == last, false);
  }

  private static void termV_boundNGoesOver0sToo() {
    Due.says("for each row of x, t = 0, and for each of its numbers in order t = the next double above t + |it|");
    SystemLab x = new SystemLab();
    int w = Due.diagonal(x, 1, 1, 1);
    int p = Due.diagonal(x, 1, 1, 1);
    int s = x.vector(3);
    int r = Due.row(x, 1, 0, 0);
    double n = Math.nextUp(Math.nextUp(Math.nextUp(1.0)));
    Due.isNumber("0s behind the 1", x.bound(p, w, s, r), steps(0, n, 1));
    int low = x.formed(p, 1, 0, 0);
    Due.isNumber("at places that the FORM has not", x.bound(low, w, s, r), steps(0, n, 1));
  }

  private static void termV_boundRIsUp() {
    Due.says("R: UP of the GREATEST of the RESIDUAL");
    SystemLab x = new SystemLab();
    int w = Due.one(x, 1);
    int r = Due.row(x, 1);
    double n = Math.nextUp(1.0);
    Due.isNumber("a little above 1", x.bound(w, w, Due.row(x, -MIN), r), steps(0, n, 1 + EPS));
    Due.isNumber("a little below 1", x.bound(w, w, Due.row(x, MIN), r), steps(0, n, 1));
    Due.isNumber("below 0", x.bound(w, w, Due.row(x, 3), r), steps(0, n, 2));
  }

  private static void termV_boundDAndBAndTheLastStep() {
    Due.says("D: the next double below 1 - g. B: the next double above N * R; the BOUND is the next double above B / D");
    Due.isNumber("R is 0", boundOf(1, 1, 0), 2 * MIN);
    Due.isNumber("g is 0", boundOf(1, 1, 1), Math.nextUp(Math.nextUp(Math.nextUp(1.0)) / Math.nextDown(1.0)));
    Due.isNumber("g is 0.5", boundOf(0.5, 1, 1), Math.nextUp(Math.nextUp(Math.nextUp(0.5)) / Math.nextDown(0.5)));
    Due.isNumber("g is 2^-60", boundOf(1, 1 + EPS, 3), steps(EPS, Math.nextUp(1.0), 3));
    Due.isNumber("N * R below all doubles", boundOf(0.5, 1, MIN), steps(0.5, Math.nextUp(0.5), MIN));
  }

  private static void termV_boundMinus1WhenOneIsNotFinite() {
    Due.says("-1.0 if one of these is not finite");
    SystemLab x = new SystemLab();
    int w = Due.one(x, 1);
    Due.isNumber("R", x.bound(w, w, Due.row(x, -MIN), Due.row(x, MAX)), -1);
    Due.isNumber("N * R", boundOf(0x1p60, 0x1p-60, 0x1p1000), -1);
    Due.isNumber("the next above N * R", boundOf(1, 1, MAX), -1);
    Due.isNumber("B / D, of a small D", boundOf(0x1p-53, 1, MAX), -1);
    Due.isNumber("just finite", boundOf(0x1p-53, 1, 0x1p1023), steps(1 - 0x1p-53, Math.nextUp(0x1p-53), 0x1p1023));
    Due.isNumber("B / D beyond", boundOf(0.5, 1, MAX), -1);
    Due.isNumber("just finite", boundOf(1, 1, MAX / 2), steps(0, Math.nextUp(1.0), MAX / 2));
  }

  private static void termV_widthIs0Without() {
    Due.says("the greatest i - j, without sign, of its numbers that are not 0 (0 without)");
    SystemLab x = new SystemLab();
    int m = x.matrix(0, 8, 8, 0, 0);
    Due.is("without", x.shape(m, 7), 0);
    x.put(m, 7, 7, Due.bits(1));
    Due.is("on the diagonal", x.shape(m, 7), 0);
    x.put(m, 2, 3, Due.bits(MIN));
    Due.is("above it", x.shape(m, 7), 1);
    x.put(m, 5, 3, Due.bits(-MIN));
    Due.is("below it", x.shape(m, 7), 2);
    x.put(m, 0, 7, Due.bits(1));
    Due.is("at the end", x.shape(m, 7), 7);
    x.put(m, 0, 7, Due.bits(-0.0));
    Due.is("gone", x.shape(m, 7), 2);
    x.put(m, 7, 0, Due.bits(1));
    Due.is("at the other end", x.shape(m, 7), 7);
  }

  // ---- V: REORDERED

  private static int graph(SystemLab x, int n, int[][] edges) {
    int m = x.matrix(0, n, n, 0, 0);
    for (int[] e : edges) {
      x.put(m, e[0], e[1], Due.bits(1 + e[0] + 8 * e[1]));
    }
    return m;
  }

  /** Reorders a graph, and looks at the numbers too. */
  private static void orderedAs(String call, int n, int[][] edges, int... want) {
    SystemLab x = new SystemLab();
    int m = graph(x, n, edges);
    int made = x.reorder(m);
    Due.placesAre(call, x, want);
    for (int i = 0; i < n; i++) {
      for (int j = 0; j < n; j++) {
        Due.is(call + " at " + i + ", " + j, x.get(made, i, j), x.get(m, want[i], want[j]));
      }
    }
  }

  private static void termV_neighboursByEitherNumber() {
    Due.says("i and j are NEIGHBOURS if the number at i, j or that at j, i is not 0");
    orderedAs("above", 3, new int[][] {{0, 2}, {0, 1}}, 2, 0, 1);
    orderedAs("below", 3, new int[][] {{2, 0}, {1, 0}}, 2, 0, 1);
    orderedAs("one of each", 3, new int[][] {{0, 2}, {1, 0}}, 2, 0, 1);
    orderedAs("both count once", 3, new int[][] {{0, 1}, {1, 0}, {1, 2}}, 2, 1, 0);
  }

  private static void termV_neighboursItselfNotCounted() {
    Due.says("(itself not counted)");
    orderedAs("2 has none but itself", 3, new int[][] {{0, 1}, {2, 2}}, 1, 0, 2);
    orderedAs("1 and 2 have one each", 4, new int[][] {{0, 1}, {1, 1}, {2, 3}, {0, 3}}, 2, 3, 0, 1);
  }

  private static void termV_theOneWithTheFewestTheFirstOfSeveral() {
    Due.says("the one with the fewest NEIGHBOURS (itself not counted), the first of several");
    orderedAs("a chain from 0 on", 3, new int[][] {{0, 1}, {1, 2}}, 2, 1, 0);
    orderedAs("a chain from 1 on", 3, new int[][] {{1, 0}, {0, 2}}, 2, 0, 1);
    orderedAs("3 alone", 4, new int[][] {{0, 1}, {1, 2}, {2, 0}}, 2, 1, 0, 3);
  }

  private static void termV_againAndAgain() {
    Due.says("again and again, of those that are not in it");
    orderedAs("0 - 1 - 2 and 3 - 4", 5, new int[][] {{0, 1}, {1, 2}, {3, 4}}, 4, 3, 2, 1, 0);
    orderedAs("0 - 2, 1 - 4 and 3", 5, new int[][] {{2, 0}, {1, 4}}, 4, 1, 2, 0, 3);
    orderedAs("8 by themselves", 8, new int[][] {}, 7, 6, 5, 4, 3, 2, 1, 0);
  }

  private static void termV_neighboursWithTheFewestFirst() {
    Due.says("those with the fewest NEIGHBOURS first, of several the first");
    int[][] edges = {{3, 0}, {0, 1}, {0, 2}, {0, 4}, {1, 2}, {4, 1}};
    orderedAs("3, 0, then 2 and 4 ahead of 1", 5, edges, 1, 4, 2, 0, 3);
  }

  private static void termV_goingAlongTheRow() {
    Due.says("going along the row from that one on, behind it come its NEIGHBOURS that are not in it");
    int[][] edges = {{0, 1}, {1, 2}, {1, 3}, {2, 4}, {3, 5}};
    orderedAs("4 behind 3, not behind 2", 6, edges, 5, 4, 3, 2, 1, 0);
  }

  private static void termV_orderStaysIfTheWidthIsGreater() {
    Due.says("if the WIDTH is greater so, the order stays as it was");
    SystemLab x = new SystemLab();
    int[][] star = {{0, 2}, {1, 2}, {2, 3}, {2, 4}};
    orderedAs("a star about 2", 5, star, 0, 1, 2, 3, 4);
    int m = graph(x, 5, star);
    Due.is("the same numbers", x.same(x.reorder(m), m), 1);
    orderedAs("without 4 it is not wider", 4, new int[][] {{0, 2}, {1, 2}, {2, 3}}, 3, 1, 2, 0);
  }

  private static void termV_bothRowsAndColumnsArePutInThisOrder() {
    Due.says("Both rows and columns are put in this order");
    SystemLab x = new SystemLab();
    int m = Due.full(x, new double[][] {{1, 0, 2}, {0, 3, 0}, {0, 0, 4}});
    int made = x.reorder(m);
    Due.placesAre("1, 0, 2 turned round", x, 2, 0, 1);
    Due.matrixIs("both", x, made, new double[][] {{4, 0, 0}, {2, 1, 0}, {0, 0, 3}});
  }

  private static void termV_orderIsTurnedRoundIfTheWidthIsAsGreat() {
    Due.says("The whole is turned round");
    orderedAs("as wide", 2, new int[][] {{0, 1}}, 1, 0);
    orderedAs("of 0s", 3, new int[][] {}, 2, 1, 0);
    orderedAs("of one", 1, new int[][] {{0, 0}}, 0);
  }

  // ---- 29

  private static void promise29_0None() {
    Due.says("How many solutions there are for a matrix and a vector: 0 none");
    SystemLab x = new SystemLab();
    Due.is("0 = 1", x.exactly(Due.one(x, 0), Due.row(x, 1)), 0);
    Due.is("0 = the least", x.exactly(Due.one(x, 0), Due.row(x, 0x1p-60)), 0);
    int tall = Due.full(x, new double[][] {{1}, {1}});
    Due.is("more rows", x.exactly(tall, Due.row(x, 1, 1 + EPS)), 0);
    int m = Due.full(x, new double[][] {{1, 1, 1}, {1, 1, 1}, {1, 1, 0}});
    Due.is("in the last row", x.exactly(m, Due.row(x, 1, 2, 1)), 0);
    Due.is("no vector was made", x.count(2), 4);
  }

  private static void promise29_1Many() {
    Due.says("1 many");
    SystemLab x = new SystemLab();
    Due.is("0 = 0", x.exactly(Due.one(x, 0), Due.row(x, 0)), 1);
    int wide = Due.full(x, new double[][] {{1, 0, 0}, {0, 1, 0}});
    Due.is("a column of 0s", x.exactly(wide, Due.row(x, 5, 6)), 1);
    Due.is("twice the same", x.exactly(Due.full(x, new double[][] {{1, 3}, {1, 3}}), Due.row(x, 2, 2)), 1);
    Due.is("no vector was made", x.count(2), 3);
  }

  private static void promise29_2AndMoreOneItsNumberLess2() {
    Due.says("2 and more: one, it is a new vector, each number ROUNDED, of this number less 2");
    SystemLab x = new SystemLab();
    int m = Due.one(x, 3);
    int r = Due.row(x, 1);
    for (int k = 1; k < 24; k++) {
      Due.is("one", x.exactly(m, r), k + 2);
      Due.vectorIs("it", x, k, 1.0 / 3);
    }
    x.forget(0);
    int five = x.vector(1);
    x.set(five, 0, Due.bits(5));
    x.forget(1);
    Due.is("vector 1", x.exactly(m, five), 3);
    x.set(1, 0, Due.bits(0x1p-60));
    x.forget(0);
    Due.is("vector 0", x.exactly(m, 1), 2);
    Due.vectorIs("vector 0", x, 0, 0x1p-60 / 3);
  }

  private static void promise29_eachNumberRounded() {
    Due.says("each number ROUNDED");
    SystemLab x = new SystemLab();
    int m = Due.full(x, new double[][] {{0x1p30, 1}, {0, 1}});
    int r = Due.row(x, 0x1p30 + 0x1p-22, 0);
    Due.vectorIs("1 + a step", x, x.exactly(m, r) - 2, 1 + EPS, 0);
    x.set(r, 1, Due.bits(0x1p-23));
    Due.vectorIs("as near: the even one", x, x.exactly(m, r) - 2, 1, 0x1p-23);
    x.set(r, 1, Due.bits(0x1p-23 + 0x1p-60));
    Due.vectorIs("a little below that", x, x.exactly(m, r) - 2, 1, 0x1p-23 + 0x1p-60);
    x.set(r, 1, Due.bits(0x1p-23 - 0x1p-60));
    Due.vectorIs("a little above it", x, x.exactly(m, r) - 2, 1 + EPS, 0x1p-23 - 0x1p-60);
    x.set(r, 1, Due.bits(-0x1p-23));
    Due.vectorIs("as near: the even one, up", x, x.exactly(m, r) - 2, 1 + 2 * EPS, -0x1p-23);
  }

  private static void promise29_noneWhenNoSuchOnes() {
    Due.says("NONE: no such ones");
    SystemLab x = new SystemLab();
    Due.one(x, 2);
    Due.row(x, 1);
    for (int k : NONE_OF_24) {
      Due.is("matrix " + k, x.exactly(k, 0), -1);
      Due.is("vector " + k, x.exactly(0, k), -1);
    }
  }

  private static void promise29_noneWhenTheyDoNotFit() {
    Due.says("they do not fit");
    SystemLab x = new SystemLab();
    int wide = Due.full(x, new double[][] {{1, 0, 0}, {0, 1, 0}});
    Due.is("as many as columns", x.exactly(wide, Due.row(x, 1, 1, 1)), -1);
    Due.is("too few", x.exactly(wide, Due.row(x, 1)), -1);
    Due.is("as many as rows", x.exactly(wide, Due.row(x, 1, 1)), 1);
  }

  private static void promise29_noneWhenNotOnTheLattice() {
    Due.says("not on the LATTICE");
    for (double d : new double[] {OFF, -OFF, FAR, -FAR, MIN, MAX}) {
      SystemLab x = new SystemLab();
      int m = Due.diagonal(x, 1, 1);
      int r = Due.row(x, 1, d);
      Due.is("the vector, " + d, x.exactly(m, r), -1);
      x.set(r, 1, Due.bits(1));
      x.put(m, 0, 1, Due.bits(d));
      Due.is("the matrix, " + d, x.exactly(m, r), -1);
      x.put(m, 0, 1, 0);
      Due.is("neither", x.exactly(m, r), 3);
    }
  }

  private static void promise29_noneWhenOneAndThereAre24() {
    Due.says("or one, and there are 24 vectors");
    SystemLab x = new SystemLab();
    int m = Due.one(x, 2);
    int zero = Due.one(x, 0);
    int r = Due.row(x, 2);
    Due.crowdVectors(x);
    Due.is("one", x.exactly(m, r), -1);
    Due.is("none: it needs no vector", x.exactly(zero, r), 0);
    Due.is("many: it needs no vector", x.exactly(zero, 1), 1);
    x.forget(23);
    Due.is("one beside 23", x.exactly(m, r), 25);
  }

  // ---- 30

  private static void promise30_from0To8() {
    Due.says("RANK");
    SystemLab x = new SystemLab();
    int m = x.matrix(0, 8, 8, 0, 0);
    for (int k = 0; k < 8; k++) {
      Due.is("rank", x.rank(m), k);
      x.put(m, k, 7 - k, Due.bits(0x1p-60));
    }
    Due.is("rank", x.rank(m), 8);
    Due.is("of one row", x.rank(x.block(m, 0, 0, 1, 8)), 1);
    Due.is("of one column", x.rank(x.block(m, 0, 0, 8, 1)), 1);
  }

  private static void promise30_exactNotRounded() {
    Due.says("RANK");
    SystemLab x = new SystemLab();
    Due.is("by the least", x.rank(Due.full(x, new double[][] {{0x1p40, 0x1p40}, {0x1p40, 0x1p40 - 0x1p-13}})), 2);
    Due.is("not by it", x.rank(Due.full(x, new double[][] {{0x1p40, 0x1p40}, {0x1p40, 0x1p40}})), 1);
    Due.is("by what rounding would lose", x.rank(Due.full(x, new double[][] {{1 + EPS, 1}, {1, 1 - EPS}})), 2);
  }

  private static void promise30_noneWhenNoSuchMatrixOrNotOnTheLattice() {
    Due.says("NONE: there is no such matrix, or it is not on the LATTICE");
    SystemLab x = new SystemLab();
    Due.one(x, 2);
    for (int k : NONE_OF_24) {
      Due.is("rank of " + k, x.rank(k), -1);
    }
    for (double d : new double[] {OFF, FAR, -FAR, MIN}) {
      x.put(0, 0, 0, Due.bits(d));
      Due.is("rank of " + d, x.rank(0), -1);
    }
    x.put(0, 0, 0, Due.bits(0x1p40));
    Due.is("rank at the end of it", x.rank(0), 1);
  }

  // ---- 31

  private static void promise31_asANewVector() {
    Due.says("Null vector k, each number ROUNDED, as a new vector: its number");
    SystemLab x = new SystemLab();
    int m = Due.full(x, new double[][] {{3, -1, 0x1p-60}});
    Due.is("null vector 1", x.nullVector(m, 1), 0);
    Due.is("null vector 0", x.nullVector(m, 0), 1);
    Due.vectorIs("null vector 1", x, 0, -0x1p-60 / 3, 0, 1);
    Due.vectorIs("null vector 0", x, 1, 1.0 / 3, 1, 0);
  }

  private static void promise31_noneWhenNoSuchMatrix() {
    Due.says("NONE: no such matrix");
    SystemLab x = new SystemLab();
    Due.one(x, 0);
    for (int k : NONE_OF_24) {
      Due.is("null vector of " + k, x.nullVector(k, 0), -1);
    }
    Due.is("null vector", x.nullVector(0, 0), 0);
  }

  private static void promise31_noneWhenNotOnTheLattice() {
    Due.says("not on the LATTICE");
    for (double d : new double[] {OFF, FAR, MIN}) {
      SystemLab x = new SystemLab();
      int m = Due.full(x, new double[][] {{1, 1, d}});
      Due.is("with " + d, x.nullVector(m, 0), -1);
      x.put(m, 0, 2, 0);
      Due.is("without", x.nullVector(m, 0), 0);
    }
  }

  private static void promise31_noneWhenNoSuchK() {
    Due.says("no such k");
    SystemLab x = new SystemLab();
    int m = Due.full(x, new double[][] {{1, 2, 3}});
    for (int k : new int[] {-1, 2, 3, 8, LEAST, MOST}) {
      Due.is("null vector " + k, x.nullVector(m, k), -1);
    }
    Due.is("the last", x.nullVector(m, 1), 0);
    Due.is("of a matrix that has none", x.nullVector(Due.one(x, 1), 0), -1);
    Due.is("one was made", x.count(2), 1);
  }

  private static void promise31_noneWhenThereAre24() {
    Due.says("or there are 24");
    SystemLab x = new SystemLab();
    int m = Due.one(x, 0);
    Due.crowdVectors(x);
    Due.is("beside 24", x.nullVector(m, 0), -1);
    x.forget(9);
    Due.is("beside 23", x.nullVector(m, 0), 9);
  }

  // ---- 32, 33

  private static void promise32_rounded() {
    Due.says("The determinant, ROUNDED: BITS");
    SystemLab x = new SystemLab();
    Due.isNumber("as near, down", x.determinant(Due.full(x, new double[][] {{0x1p40, 1}, {-1, 0x1p13}})), 0x1p53);
    Due.isNumber("as near, up", x.determinant(Due.full(x, new double[][] {{0x1p40, 3}, {-1, 0x1p13}})), 0x1p53 + 4);
    Due.isNumber("a little above", x.determinant(Due.full(x, new double[][] {{0x1p40, 1 + EPS}, {-1, 0x1p13}})),
        0x1p53 + 2);
    Due.isNumber("below 0", x.determinant(Due.full(x, new double[][] {{1, 0x1p40}, {0x1p13, -1}})), -0x1p53);
    Due.isNumber("0, not -0", x.determinant(Due.full(x, new double[][] {{-1, 1}, {1, -1}})), 0);
    Due.isNumber("of two rows turned", x.determinant(Due.full(x, new double[][] {{0, 1}, {1, 0}})), -1);
  }

  private static void promise32_ofTheLargestAndTheLeast() {
    Due.says("The determinant, ROUNDED: BITS");
    SystemLab x = new SystemLab();
    double t = 0x1p40;
    Due.isNumber("the largest", x.determinant(Due.diagonal(x, t, t, t, t, t, t, t, t)), 0x1p320);
    double l = 0x1p-60;
    Due.isNumber("the least", x.determinant(Due.diagonal(x, l, l, l, l, l, l, l, -l)), -0x1p-480);
  }

  private static void promise32_noneWhenNoSuchMatrix() {
    Due.says("-1: no such matrix");
    SystemLab x = new SystemLab();
    Due.one(x, 2);
    for (int k : NONE_OF_24) {
      Due.is("determinant of " + k, x.determinant(k), -1);
    }
  }

  private static void promise32_noneWhenNotSquareOrNotOnTheLattice() {
    Due.says("not as many rows as columns, not on the LATTICE");
    SystemLab x = new SystemLab();
    int wide = x.matrix(0, 2, 3, 0, 0);
    Due.is("more columns", x.determinant(wide), -1);
    Due.is("more rows", x.determinant(x.transpose(wide)), -1);
    for (double d : new double[] {OFF, FAR, -FAR, MIN, MAX}) {
      Due.is("with " + d, x.determinant(Due.full(x, new double[][] {{1, 0}, {d, 0}})), -1);
    }
    Due.isNumber("at the ends of it", x.determinant(Due.diagonal(x, 0x1p40, 0x1p-60)), 0x1p-20);
  }

  private static void promise33_bitsFrom32KOn() {
    Due.says("a whole number without sign: its bits 32 k to 32 k + 31 (k 0 .. 27) as an int");
    SystemLab x = new SystemLab();
    int m = Due.one(x, -0x1p-60);
    Due.is("the lowest bit, without sign", x.digits(m, 0), 1);
    Due.is("the next int", x.digits(m, 1), 0);
    x.put(m, 0, 0, Due.bits(0x1p-29));
    Due.is("bit 31", x.digits(m, 0), LEAST);
    x.put(m, 0, 0, Due.bits(0x1p-28));
    Due.is("bit 32", x.digits(m, 0), 0);
    Due.is("bit 32", x.digits(m, 1), 1);
    x.put(m, 0, 0, Due.bits(0x1p40));
    Due.is("bit 100", x.digits(m, 3), 16);
    double t = 0x1p40;
    int top = Due.diagonal(x, t, t, t, t, t, t, t, t);
    for (int k = 0; k < 28; k++) {
      Due.is("2^800 at " + k, x.digits(top, k), k == 25 ? 1 : 0);
    }
  }

  private static void promise33_times2To60N() {
    Due.says("Of the determinant times 2^(60 n), a whole number without sign");
    for (int n = 1; n <= 8; n++) {
      SystemLab x = new SystemLab();
      double[] ones = new double[n];
      java.util.Arrays.fill(ones, 1);
      int m = Due.diagonal(x, ones);
      for (int k = 0; k < 28; k++) {
        Due.is("1 of " + n + " rows at " + k, x.digits(m, k), k == 60 * n / 32 ? 1 << 60 * n % 32 : 0);
      }
    }
  }

  private static void promise33_0ForOtherK() {
    Due.says("0 for others");
    SystemLab x = new SystemLab();
    int m = Due.one(x, 0x1.fffffffep-29);
    Due.is("k 0", x.digits(m, 0), -1);
    for (int k : new int[] {-1, 28, 32, LEAST, MOST, -32, 1 << 27}) {
      Due.is("k " + k, x.digits(m, k), 0);
    }
  }

  private static void promise33_0WhereTheDeterminantIsRefused() {
    Due.says("or where determinant() answers -1");
    SystemLab x = new SystemLab();
    int m = Due.full(x, new double[][] {{1, 1}, {0, 0x1p-60}});
    Due.is("it is not", x.digits(m, 1), 1 << 28);
    for (int k : NONE_OF_24) {
      Due.is("no matrix " + k, x.digits(k, 1), 0);
    }
    x.put(m, 0, 1, Due.bits(OFF));
    Due.is("not on the LATTICE", x.digits(m, 1), 0);
    Due.is("not square", x.digits(Due.full(x, new double[][] {{1, 1}}), 1), 0);
  }

  // ---- 34

  private static void promise34_up() {
    Due.says("CONDITION, UP: BITS");
    SystemLab x = new SystemLab();
    Due.isNumber("a double: itself", x.condition(Due.diagonal(x, 1, 8)), 8);
    Due.isNumber("10 / 3", x.condition(Due.diagonal(x, 3, 10)), 0x1.aaaaaaaaaaaabp1);
    Due.isNumber("4 / 3, UP", x.condition(Due.diagonal(x, 3, 4)), 0x1.5555555555556p0);
    Due.isNumber("of the ends", x.condition(Due.diagonal(x, 0x1p-60, 0x1p40)), 0x1p100);
  }

  private static void promise34_noneWhenNoInverse() {
    Due.says("or there is no inverse");
    SystemLab x = new SystemLab();
    Due.is("0", x.condition(Due.one(x, 0)), -1);
    Due.is("of rank 1", x.condition(Due.full(x, new double[][] {{1, 2}, {2, 4}})), -1);
    Due.is("of rank 2 by the least", x.condition(Due.full(x, new double[][] {{1, 1}, {1, 1 + EPS}})) > 0, true);
    double l = 0x1p-60;
    Due.isNumber("of the least", x.condition(Due.diagonal(x, l, l, l, l, l, l, l, l)), 1);
  }

  private static void promise34_noneAsForDeterminant() {
    Due.says("-1: as for determinant()");
    SystemLab x = new SystemLab();
    Due.one(x, 2);
    for (int k : NONE_OF_24) {
      Due.is("condition of " + k, x.condition(k), -1);
    }
    Due.is("not square", x.condition(Due.full(x, new double[][] {{1, 1}})), -1);
    for (double d : new double[] {OFF, FAR, MIN}) {
      Due.is("with " + d, x.condition(Due.full(x, new double[][] {{1, 0}, {d, 1}})), -1);
    }
  }

  // ---- 35, 36

  /** Matrices 0 and 1 of 2 rows and columns, vectors 0 and 1 of 2. */
  private static SystemLab forBound() {
    SystemLab x = new SystemLab();
    Due.diagonal(x, 0.5, 0.25);
    Due.diagonal(x, 2, 4);
    Due.row(x, 1, 1);
    Due.row(x, 2, 4);
    return x;
  }

  private static void promise35_noneWhenNoSuchMatrices() {
    Due.says("GAP: BITS; -1: no such matrices");
    SystemLab x = forBound();
    for (int k : NONE_OF_24) {
      Due.is("x " + k, x.gap(k, 1), -1);
      Due.is("w " + k, x.gap(0, k), -1);
      Due.is("both " + k, x.gap(k, k), -1);
    }
    Due.isNumber("both there", x.gap(0, 1), 0);
  }

  private static void promise35_noneWhenNotBothOfTheSameN() {
    Due.says("not both of the same n rows and columns");
    SystemLab x = forBound();
    int one = Due.one(x, 1);
    int three = Due.diagonal(x, 1, 1, 1);
    int wide = Due.full(x, new double[][] {{1, 2, 3}, {4, 5, 6}});
    int tall = x.transpose(wide);
    for (int m : new int[] {one, three, wide, tall}) {
      Due.is("x " + m, x.gap(m, 1), -1);
      Due.is("w " + m, x.gap(0, m), -1);
    }
    Due.is("wide, tall", x.gap(wide, tall), -1);
    Due.is("tall, wide", x.gap(tall, wide), -1);
    Due.is("wide both", x.gap(wide, wide), -1);
  }

  private static void promise35_noneWhenWIsNotOnTheLatticeXNeedNotBe() {
    Due.says("w is not on the LATTICE (x need not be)");
    SystemLab x = forBound();
    for (double d : new double[] {OFF, FAR, -FAR, MIN}) {
      int off = Due.diagonal(x, 1, d);
      Due.is("w with " + d, x.gap(0, off), -1);
      Due.is("x with " + d, x.gap(off, 1) >= 0, true);
    }
    Due.isNumber("x of the least", x.gap(Due.diagonal(x, 0.5, MIN), 1), 1);
  }

  private static void promise35_noneWhenNotFinite() {
    Due.says("or it is not finite");
    SystemLab x = new SystemLab();
    int w = Due.one(x, 1);
    Due.isNumber("the greatest less 1, UP", x.gap(Due.one(x, MAX), w), MAX);
    Due.is("the greatest and 1", x.gap(Due.one(x, -MAX), w), -1);
    int one = Due.diagonal(x, 1, 1);
    int p = Due.full(x, new double[][] {{1, MAX}, {0, 1}});
    Due.isNumber("just the greatest", x.gap(p, one), MAX);
    x.put(p, 0, 0, Due.bits(1 + EPS));
    Due.is("a little above it", x.gap(p, one), -1);
  }

  private static void promise36_minus1AlsoWhereTheGapIsNotFinite() {
    Due.says("(those of -1.0, if it is that, also where the GAP is not finite)");
    SystemLab x = forBound();
    int far = Due.diagonal(x, MAX, MAX);
    Due.is("its gap", x.gap(far, 1), -1);
    Due.isNumber("the GAP is not finite", x.bound(far, 1, 0, 1), -1);
    Due.isNumber("the GAP is 1", x.bound(x.matrix(0, 2, 2, 0, 0), 1, 0, 1), -1);
    Due.is("it is the BITS of -1.0", x.bound(far, 1, 0, 1), 0xBFF0000000000000L);
  }

  private static void promise36_noneWhenNoSuchMatricesOrVectors() {
    Due.says("-1: no such matrices, vectors");
    SystemLab x = forBound();
    for (int k : NONE_OF_24) {
      Due.is("x " + k, x.bound(k, 1, 0, 1), -1);
      Due.is("w " + k, x.bound(0, k, 0, 1), -1);
      Due.is("s " + k, x.bound(0, 1, k, 1), -1);
      Due.is("r " + k, x.bound(0, 1, 0, k), -1);
    }
    Due.isNumber("all there", x.bound(0, 1, 0, 1), 2 * MIN);
  }

  private static void promise36_noneWhenTheyDoNotFit() {
    Due.says("they do not fit");
    SystemLab x = forBound();
    int one = Due.one(x, 1);
    int three = Due.diagonal(x, 1, 1, 1);
    int wide = Due.full(x, new double[][] {{1, 2, 3}, {4, 5, 6}});
    int tall = x.transpose(wide);
    for (int m : new int[] {one, three, wide, tall}) {
      Due.is("x " + m, x.bound(m, 1, 0, 1), -1);
      Due.is("w " + m, x.bound(0, m, 0, 1), -1);
    }
    int v1 = Due.row(x, 1);
    int v3 = Due.row(x, 1, 1, 1);
    for (int v : new int[] {v1, v3}) {
      Due.is("s " + v, x.bound(0, 1, v, 1), -1);
      Due.is("r " + v, x.bound(0, 1, 0, v), -1);
    }
    Due.is("wide, tall, 3, 2", x.bound(wide, tall, 0, v3), -1);
    Due.is("they do not fit where g is not below 1", x.bound(x.matrix(0, 2, 2, 0, 0), 1, 0, v3), -1);
  }

  private static void promise36_noneWhenWIsNotOnTheLattice() {
    Due.says("or w is not on the LATTICE");
    SystemLab x = forBound();
    for (double d : new double[] {OFF, FAR, -FAR, MIN, MAX}) {
      Due.is("w with " + d, x.bound(0, Due.diagonal(x, 2, d), 0, 1), -1);
    }
    int off = Due.diagonal(x, 0.5, 0.25 + 0x1p-54);
    x.put(off, 0, 1, Due.bits(OFF));
    Due.is("x need not be", x.bound(off, 1, 0, 1) > 0, true);
    int s = Due.row(x, MIN, MAX);
    int r = Due.row(x, MIN, OFF);
    Due.isNumber("nor the vectors: here R is not finite", x.bound(0, 1, s, r), -1);
    x.set(s, 1, Due.bits(OFF));
    Due.is("nor the vectors", x.bound(0, 1, s, r) > 0, true);
  }

  // ---- 37, 38

  private static void promise37_noneWhenItIsNotThere() {
    Due.says("NONE: it is not there");
    SystemLab x = forBound();
    for (int k : NONE_OF_24) {
      Due.is("reorder " + k, x.reorder(k), -1);
    }
    Due.is("reorder", x.reorder(0), 2);
  }

  private static void promise37_noneWhenNotSquare() {
    Due.says("it has not as many rows as columns");
    SystemLab x = new SystemLab();
    int wide = Due.full(x, new double[][] {{1, 2, 3}, {4, 5, 6}});
    Due.is("more columns", x.reorder(wide), -1);
    Due.is("more rows", x.reorder(x.transpose(wide)), -1);
    Due.is("nothing was made", x.count(0), 2);
  }

  private static void promise37_noneWhenThereAre24() {
    Due.says("or there are 24");
    SystemLab x = new SystemLab();
    Due.diagonal(x, 1, 2);
    Due.crowdMatrices(x);
    Due.is("reorder beside 24", x.reorder(0), -1);
    x.drop(23);
    Due.is("reorder beside 23", x.reorder(0), 23);
  }

  private static void promise38_whichRowStandsAtK() {
    Due.says("Which row of that stands at k in the latest reorder()");
    SystemLab x = new SystemLab();
    int m = graph(x, 4, new int[][] {{0, 3}, {3, 1}, {1, 2}});
    int made = x.reorder(m);
    Due.placesAre("the chain 0 3 1 2, turned round", x, 2, 1, 3, 0);
    for (int k = 0; k < 4; k++) {
      Due.is("row " + k, x.get(made, k, k), x.get(m, x.place(k), x.place(k)));
    }
  }

  private static void promise38_noneWhenThereIsNoneSuch() {
    Due.says("NONE when there is none such");
    SystemLab x = new SystemLab();
    for (int k : new int[] {0, -1, 7, 8}) {
      Due.is("before any, place " + k, x.place(k), -1);
    }
    x.reorder(Due.diagonal(x, 1, 2, 3));
    for (int k : new int[] {-1, 3, 7, 8, LEAST, MOST}) {
      Due.is("place " + k, x.place(k), -1);
    }
    Due.is("the last", x.place(2), 0);
  }

  private static void promise38_ofTheLatest() {
    Due.says("in the latest reorder()");
    SystemLab x = new SystemLab();
    int three = Due.diagonal(x, 1, 2, 3);
    int one = Due.one(x, 1);
    x.reorder(three);
    Due.placesAre("of 3", x, 2, 1, 0);
    x.reorder(one);
    Due.placesAre("of 1", x, 0);
    x.reorder(three);
    x.drop(three);
    Due.placesAre("of 3 again, though it is gone", x, 2, 1, 0);
  }

  private static void promise38_ofTheLatestAlone() {
    Due.says("in the latest reorder()");
    SystemLab x = new SystemLab();
    int star = graph(x, 6, new int[][] {{0, 1}, {0, 2}, {0, 3}, {0, 4}});
    int chain = graph(x, 6, new int[][] {{0, 3}, {3, 5}, {5, 1}, {1, 4}, {4, 2}});
    int three = graph(x, 3, new int[][] {{0, 2}, {2, 1}});
    for (int round = 0; round < 3; round++) {
      x.reorder(star);
      Due.placesAre("a star about 0", x, 4, 3, 2, 0, 1, 5);
      x.reorder(chain);
      Due.placesAre("a chain", x, 2, 4, 1, 5, 3, 0);
      x.reorder(three);
      Due.placesAre("a chain of 3", x, 1, 2, 0);
    }
  }

  private static void promise38_thatWasNotRefused() {
    Due.says("that was not refused");
    SystemLab x = new SystemLab();
    int three = Due.diagonal(x, 1, 2, 3);
    int wide = Due.full(x, new double[][] {{1, 2}});
    x.reorder(three);
    x.reorder(wide);
    Due.placesAre("one not square", x, 2, 1, 0);
    x.reorder(20);
    Due.placesAre("one that is not there", x, 2, 1, 0);
    int one = Due.one(x, 1);
    Due.crowdMatrices(x);
    x.reorder(one);
    Due.placesAre("beside 24", x, 2, 1, 0);
  }
}
