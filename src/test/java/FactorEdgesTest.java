/** Term III but what is SOLVED, and promises 13 to 18, each sentence that names an end or an edge by itself. */
public final class FactorEdgesTest {
  private static final double MAX = Double.MAX_VALUE;
  private static final double MIN = Double.MIN_VALUE;
  private static final int LEAST = Integer.MIN_VALUE;
  private static final int MOST = Integer.MAX_VALUE;
  private static final int[] NO_FACTOR = {-1, 1, 11, 12, 24, LEAST, MOST};

  public static void main(String[] args) {
    Due.runAll(FactorEdgesTest.class);
  }

  /** An object whose FACTOR 0 alone is there, of 2 rows; 1 was there and is gone. */
  private static SystemLab withOne() {
    SystemLab x = new SystemLab();
    int m = Due.full(x, new double[][] {{4, 1}, {2, 3}});
    x.factor(m, 0, false);
    x.factor(m, 1, false);
    x.release(1);
    return x;
  }

  private static int factorOf(SystemLab x, int method, boolean fused, double[][] numbers) {
    return x.factor(Due.full(x, numbers), method, fused);
  }

  // ---- III: METHODS 0 to 2

  private static void termIII_factors0To11() {
    Due.says("FACTORS 0 .. 11");
    SystemLab x = new SystemLab();
    int m = Due.one(x, 4);
    for (int k = 0; k < 12; k++) {
      Due.is("factor", x.factor(m, k % 4, false), k);
    }
    Due.isNumber("the last is there", x.growth(11), 0.5);
    Due.is("none beyond", x.growth(12), -1);
    Due.is("none ahead", x.growth(-1), -1);
  }

  private static void termIII_ofAMatrixAsItIsThen() {
    Due.says("of a matrix w of n rows and columns (as it is then)");
    SystemLab x = new SystemLab();
    int m = Due.full(x, new double[][] {{4, 1}, {2, 3}});
    int f = x.factor(m, 0, false);
    x.put(m, 0, 0, Due.bits(100));
    Due.partsAre("put after it", x, f, new double[][] {{4, 1}, {0.5, 2.5}});
    x.drop(m);
    Due.full(x, new double[][] {{7, 7}, {7, 8}});
    Due.partsAre("dropped, and another in its room", x, f, new double[][] {{4, 1}, {0.5, 2.5}});
    Due.vectorIs("it solves", x, x.solve(f, Due.row(x, 5, 5)), 1, 1);
  }

  private static void termIII_plainExchangesNothing() {
    Due.says("METHODS 0 plain, 1 by rows, 2 by rows and columns, 3 by roots");
    SystemLab x = new SystemLab();
    int f = factorOf(x, 0, false, new double[][] {{1, 2}, {4, 16}});
    Due.partsAre("plain", x, f, new double[][] {{1, 2}, {4, 8}});
    Due.orderIs("plain", x, f, 0, 0, 1);
    Due.orderIs("plain", x, f, 1, 0, 1);
  }

  private static void termIII_byRowsTheGreatestWithoutSign() {
    Due.says("by METHOD 1 the row is chosen from k on whose number in column k is the greatest without sign");
    SystemLab x = new SystemLab();
    int f = factorOf(x, 1, false, new double[][] {{3, 9, 9}, {2, 1, 0}, {-4, 8, 8}});
    Due.orderIs("-4 first", x, f, 0, 2, 0, 1);
    Due.orderIs("no columns", x, f, 1, 0, 1, 2);
    int g = factorOf(x, 1, false, new double[][] {{8, 0, 0}, {0, 1, 0}, {0, 100, 1}});
    Due.orderIs("only rows from k on", x, g, 0, 0, 2, 1);
  }

  private static void termIII_byRowsOfSeveralTheFirst() {
    Due.says("of several the first");
    SystemLab x = new SystemLab();
    int f = factorOf(x, 1, false, new double[][] {{1, 1, 0}, {-2, 0, 0}, {2, 0, 5}});
    Due.orderIs("-2, not 2", x, f, 0, 1, 0, 2);
    int g = factorOf(x, 1, false, new double[][] {{2, 0, 0}, {-2, 1, 0}, {2, 0, 5}});
    Due.orderIs("none with itself", x, g, 0, 0, 1, 2);
    int h = factorOf(x, 1, false, new double[][] {{4, 0, 0}, {0, 1, 1}, {0, -1, 5}});
    Due.orderIs("in a later column", x, h, 0, 0, 1, 2);
  }

  private static void termIII_byBothTheFirstByRowsThenByColumns() {
    Due.says("by 2 the row and column from k on likewise, the first by rows, then by columns");
    SystemLab x = new SystemLab();
    int f = factorOf(x, 2, false, new double[][] {{1, 2, -5}, {5, 1, 1}, {5, 5, 1}});
    Due.isNumber("the first row that has it", x.part(f, 0, 0), -5);
    Due.is("its row", x.order(f, 0, 0), 0);
    Due.is("its column", x.order(f, 1, 0), 2);
    int g = factorOf(x, 2, false, new double[][] {{1, 1, 1}, {1, -6, 6}, {6, 2, 3}});
    Due.isNumber("in a row the first column", x.part(g, 0, 0), -6);
    Due.is("its row", x.order(g, 0, 0), 1);
    Due.is("its column", x.order(g, 1, 0), 1);
  }

  private static void termIII_byBothOnlyFromKOn() {
    Due.says("by 2 the row and column from k on likewise");
    SystemLab x = new SystemLab();
    int f = factorOf(x, 2, false, new double[][] {{8, 7, 0}, {0, 1, 0}, {7, 0, 2}});
    Due.orderIs("rows", x, f, 0, 0, 2, 1);
    Due.orderIs("columns", x, f, 1, 0, 1, 2);
    Due.partsAre("7 in row 0 and column 0 counts not", x, f, new double[][] {{8, 7, 0}, {0.875, -6.125, 2},
      {0, 1 / -6.125, 2 / 6.125}});
  }

  private static void termIII_exchangedAsAWhole() {
    Due.says("rows k and that one, columns likewise, are exchanged as a whole");
    SystemLab x = new SystemLab();
    int f = factorOf(x, 1, false, new double[][] {{8, 0, 0}, {2, 1, 0}, {4, 2, 1}});
    Due.partsAre("l goes with its row", x, f, new double[][] {{8, 0, 0}, {0.5, 2, 1}, {0.25, 0.5, -0.5}});
    int g = factorOf(x, 2, false, new double[][] {{8, 1, 2}, {0, 1, 0}, {0, 0, 4}});
    Due.partsAre("what is above goes with its column", x, g, new double[][] {{8, 2, 1}, {0, 4, 0}, {0, 0, 1}});
  }

  /** A diagonal of 2s whose numbers from k on are 0. */
  private static int zeroFrom(SystemLab x, int n, int k) {
    double[] numbers = new double[n];
    java.util.Arrays.fill(numbers, 0, k, 2);
    return Due.diagonal(x, numbers);
  }

  private static void termIII_failsAtKThatIs0AlsoTheLast() {
    Due.says("If w(k, k) is 0 (-0 too), it fails at k");
    for (int n = 1; n <= 8; n++) {
      SystemLab x = new SystemLab();
      for (int k = 0; k < n; k++) {
        int m = zeroFrom(x, n, k);
        for (int method = 0; method < 4; method++) {
          Due.is(n + " rows, METHOD " + method, x.factor(m, method, method == 2), -2 - k);
        }
        x.drop(m);
      }
      Due.is("not at n", x.factor(zeroFrom(x, n, n), 0, false), 0);
    }
  }

  private static void termIII_failsAtMinusZeroToo() {
    Due.says("If w(k, k) is 0 (-0 too), it fails at k");
    SystemLab x = new SystemLab();
    for (int method = 0; method < 3; method++) {
      Due.is("METHOD " + method, factorOf(x, method, true, new double[][] {{1, 0.25}, {MIN, 0}}), -3);
    }
    Due.is("with a row behind it", factorOf(x, 0, true, new double[][] {{1, 0.25, 0}, {MIN, 0, 1}, {0, 1, 0}}), -3);
    Due.is("by rows it is not chosen", factorOf(x, 1, true, new double[][] {{1, 0.25, 0}, {MIN, 0, 1}, {0, 1, 0}}), 0);
  }

  private static void termIII_failsWhenLIsNotFinite() {
    Due.says("If a number that was made so is not finite, it fails at k");
    SystemLab x = new SystemLab();
    for (boolean fused : new boolean[] {false, true}) {
      Due.is("l at k 0", factorOf(x, 0, fused, new double[][] {{MIN, 0}, {1, 1}}), -2);
      Due.is("l at k 1", factorOf(x, 0, fused, new double[][] {{1, 0, 0}, {0, 0.25, 0}, {0, MAX, 1}}), -3);
    }
    Due.is("just finite", factorOf(x, 0, false, new double[][] {{0.5, 0}, {MAX / 2, 1}}), 0);
    Due.is("by rows there is none such", factorOf(x, 1, false, new double[][] {{MIN, 0}, {1, 1}}), 1);
  }

  private static void termIII_failsWhenANumberBehindIsNotFinite() {
    Due.says("If a number that was made so is not finite, it fails at k");
    for (boolean fused : new boolean[] {false, true}) {
      SystemLab x = new SystemLab();
      for (int method = 0; method < 3; method++) {
        Due.is("at k 0, the last place", factorOf(x, method, fused, new double[][] {{MAX, MAX}, {MAX, -MAX}}), -2);
      }
      Due.is("at k 1", factorOf(x, 0, fused, new double[][] {{4, 0, 0}, {0, 1, MAX}, {0, 1, -MAX}}), -3);
      Due.is("just finite", factorOf(x, 0, fused, new double[][] {{1, MAX}, {1, 0}}), 0);
    }
    SystemLab x = new SystemLab();
    Due.is("the product alone, not fused", factorOf(x, 0, false, new double[][] {{1, MAX}, {2, MAX}}), -2);
    Due.is("the product alone, fused", factorOf(x, 0, true, new double[][] {{1, MAX}, {2, MAX}}), 0);
  }

  private static void termIII_theLastKToo() {
    Due.says("(The last k too.)");
    SystemLab x = new SystemLab();
    Due.is("n is 1", factorOf(x, 0, false, new double[][] {{0}}), -2);
    Due.is("n is 2", factorOf(x, 0, false, new double[][] {{1, 1}, {1, 1}}), -3);
    Due.is("n is 2, by rows", factorOf(x, 1, false, new double[][] {{1, 1}, {1, 1}}), -3);
    Due.is("n is 3, by both", factorOf(x, 2, false, new double[][] {{3, 1, 1}, {3, 1, 1}, {3, 2, 1}}), -4);
    Due.is("the least is not 0", factorOf(x, 0, false, new double[][] {{1, 0}, {0, MIN}}), 0);
  }

  private static void termIII_eachStepRoundedOrFused() {
    Due.says("w(i, j) = w(i, j) - l * w(k, j), or FUSED(-l, w(k, j), w(i, j))");
    SystemLab x = new SystemLab();
    double e = 1 + 0x1p-30;
    double[][] m = {{1, e, 0}, {e, 1 + 0x1p-29, 1}, {0, 1, 1}};
    Due.is("not fused it is 0", factorOf(x, 0, false, m), -3);
    int f = factorOf(x, 0, true, m);
    Due.isNumber("fused it is not", x.part(f, 1, 1), -0x1p-60);
    Due.isNumber("l is rounded", x.part(factorOf(x, 0, true, new double[][] {{3, 1}, {1, 1}}), 1, 0), 1.0 / 3);
  }

  // ---- III: METHOD 3

  private static void termIII_rootsLookOnlyAtPlacesNotAboveTheDiagonal() {
    Due.says("3: only places with j not above i of w are looked at");
    SystemLab x = new SystemLab();
    int f = factorOf(x, 3, false, new double[][] {{4, MAX, -1}, {2, 10, MAX}, {-6, 0, 26}});
    Due.partsAre("by roots", x, f, new double[][] {{2, 0, 0}, {1, 3, 0}, {-3, 1, 4}});
    int low = x.matrix(1, 2, 2, 0, 0);
    Due.fill(x, low, new double[][] {{9, 0}, {3, 5}});
    Due.partsAre("of LOWER", x, x.factor(low, 3, false), new double[][] {{3, 0}, {1, 2}});
  }

  private static void termIII_rootsFailWhereTIsNotAbove0() {
    Due.says("t must be above 0 (else it fails at i)");
    for (int i = 0; i < 8; i++) {
      SystemLab x = new SystemLab();
      int m = Due.diagonal(x, 4, 4, 4, 4, 4, 4, 4, 4);
      for (double d : new double[] {0, -MIN, -4, -MAX}) {
        x.put(m, i, i, Due.bits(d));
        Due.is(d + " at " + i, x.factor(m, 3, false), -2 - i);
      }
      x.put(m, i, i, Due.bits(MIN));
      Due.is("the least at " + i, x.factor(m, 3, false), 0);
    }
  }

  private static void termIII_rootsFailWhereTBecomes0OrLess() {
    Due.says("if j is i: t must be above 0 (else it fails at i)");
    SystemLab x = new SystemLab();
    Due.is("4 - 2 * 2", factorOf(x, 3, false, new double[][] {{4, 0}, {4, 4}}), -3);
    Due.is("a little less", factorOf(x, 3, false, new double[][] {{4, 0}, {4, Math.nextDown(4.0)}}), -3);
    Due.is("a little more", factorOf(x, 3, false, new double[][] {{4, 0}, {4, Math.nextUp(4.0)}}), 0);
    Due.is("0.5 - 1 * 1, fused", factorOf(x, 3, true, new double[][] {{1, 0}, {1, 0.5}}), -3);
    double e = 1 + 0x1p-30;
    double[][] near = {{1, 0}, {e, 1 + 0x1p-29}};
    Due.is("0 when rounded", factorOf(x, 3, false, near), -3);
    Due.is("below 0 when fused", factorOf(x, 3, true, near), -3);
  }

  private static void termIII_rootsFailWhenTIsNotFinite() {
    Due.says("If a number that was made (t too) is not finite, it fails at i");
    SystemLab x = new SystemLab();
    for (boolean fused : new boolean[] {false, true}) {
      Due.is("t of the diagonal", factorOf(x, 3, fused, new double[][] {{1, 0}, {0x1p512, 1}}), -3);
      Due.is("t ahead of it", factorOf(x, 3, fused,
          new double[][] {{1, 0, 0}, {0x1p500, 0x1p1001, 0}, {0x1p600, 0, 1}}), -4);
    }
    double[][] back = {{1, 0, 0}, {-4, 32, 0}, {MAX / 2, -MAX, 1}};
    Due.is("t - h * h, beyond", factorOf(x, 3, false, back), -4);
  }

  private static void termIII_rootsFailWhenAQuotientIsNotFinite() {
    Due.says("If a number that was made (t too) is not finite, it fails at i");
    SystemLab x = new SystemLab();
    for (boolean fused : new boolean[] {false, true}) {
      Due.is("t / h", factorOf(x, 3, fused, new double[][] {{0x1p-200, 0}, {0x1p950, 1}}), -3);
      Due.is("t / h, at 2", factorOf(x, 3, fused, new double[][] {{1, 0, 0}, {0, 0x1p-200, 0}, {0, MAX, 1}}), -4);
    }
  }

  private static void termIII_rootsRoundedOrFused() {
    Due.says("t = t - h(i, k) * h(j, k), or FUSED(-h(i, k), h(j, k), t)");
    SystemLab x = new SystemLab();
    double e = 1 + 0x1p-30;
    double[][] m = {{1, 0}, {e, 1 + 0x1p-29 + 0x1p-52}};
    Due.isNumber("not fused", x.part(factorOf(x, 3, false, m), 1, 1), 0x1p-26);
    Due.isNumber("fused", x.part(factorOf(x, 3, true, m), 1, 1), Math.sqrt(0x1p-52 - 0x1p-60));
  }

  // ---- 13

  private static void promise13_itsNumberTheLeastThatIsFree() {
    Due.says("A FACTOR is made: its number (the least that is free)");
    SystemLab x = withOne();
    Due.is("the next", x.factor(0, 2, true), 1);
    Due.is("the next", x.factor(0, 3, true), 2);
    x.release(0);
    Due.is("the least", x.factor(0, 0, true), 0);
    Due.is("behind all", x.factor(0, 0, true), 3);
  }

  private static void promise13_minus2MinusKWhereItFails() {
    Due.says("-2 - k: it fails at k");
    for (int k = 0; k < 8; k++) {
      SystemLab x = new SystemLab();
      int m = zeroFrom(x, 8, k);
      Due.is("plain", x.factor(m, 0, false), -2 - k);
      Due.is("by roots", x.factor(m, 3, true), -2 - k);
      Due.is("nothing was made", x.count(1), 0);
    }
  }

  private static void promise13_noneWhenNoSuchMatrix() {
    Due.says("NONE: no such matrix");
    SystemLab x = withOne();
    for (int m : new int[] {-1, 1, 23, 24, LEAST, MOST}) {
      for (int method = 0; method < 4; method++) {
        Due.is("factor of " + m, x.factor(m, method, false), -1);
      }
    }
  }

  private static void promise13_noneWhenNoSuchMethod() {
    Due.says("no such matrix, METHOD");
    SystemLab x = withOne();
    for (int method : new int[] {-1, 4, LEAST, MOST}) {
      Due.is("METHOD " + method, x.factor(0, method, false), -1);
      Due.is("METHOD " + method + ", fused", x.factor(0, method, true), -1);
    }
    Due.is("nothing was made", x.count(1), 1);
  }

  private static void promise13_noneWhenNotAsManyRowsAsColumns() {
    Due.says("not as many rows as columns");
    SystemLab x = new SystemLab();
    int wide = Due.full(x, new double[][] {{1, 0, 0}, {0, 1, 0}});
    int tall = x.transpose(wide);
    for (int method = 0; method < 4; method++) {
      Due.is("more columns, METHOD " + method, x.factor(wide, method, false), -1);
      Due.is("more rows, METHOD " + method, x.factor(tall, method, false), -1);
    }
  }

  private static void promise13_noneWhenThereAre12() {
    Due.says("or there are 12");
    SystemLab x = withOne();
    for (int k = 1; k < 12; k++) {
      Due.is("the next", x.factor(0, k % 4, false), k);
    }
    Due.is("the 13th", x.factor(0, 0, false), -1);
    Due.is("one that would fail", x.factor(Due.one(x, 0), 0, false), -1);
    Due.is("12 are there", x.count(1), 12);
    x.release(11);
    Due.is("when the last is gone", x.factor(0, 0, false), 11);
  }

  // ---- 14

  private static void promise14_falseWhenThereIsNoneSuch() {
    Due.says("A FACTOR goes: true; false when there is none such");
    SystemLab x = withOne();
    for (int f : NO_FACTOR) {
      Due.is("release " + f, x.release(f), false);
    }
    Due.is("release", x.release(0), true);
    Due.is("release again", x.release(0), false);
    Due.is("none is there", x.count(1), 0);
  }

  private static void promise14_theFirstAndTheLastGo() {
    Due.says("A FACTOR goes: true");
    SystemLab x = withOne();
    for (int k = 1; k < 12; k++) {
      x.factor(0, 0, false);
    }
    for (int f : new int[] {11, 0}) {
      Due.is("release " + f, x.release(f), true);
      Due.is("it is gone", x.part(f, 0, 0), -1);
    }
    Due.is("10 stay", x.count(1), 10);
  }

  // ---- 15

  private static void promise15_zeroForPlacesAboveTheDiagonal() {
    Due.says("of METHOD 3 h(i, j) (0 for j above i)");
    SystemLab x = new SystemLab();
    int m = x.matrix(0, 8, 8, 0, 0);
    for (int k = 0; k < 64; k++) {
      x.put(m, k / 8, k % 8, Due.bits(k / 8 == k % 8 ? 16 : k / 8 < k % 8 ? -MAX : 0));
    }
    int f = x.factor(m, 3, false);
    for (int k = 0; k < 64; k++) {
      Due.isNumber("part " + k / 8 + ", " + k % 8, x.part(f, k / 8, k % 8), k / 8 == k % 8 ? 4 : 0);
    }
  }

  private static void promise15_asItIsAtTheEnd() {
    Due.says("BITS of w(i, j) of a FACTOR as it is at the end");
    SystemLab x = new SystemLab();
    int f = factorOf(x, 1, false, new double[][] {{1, 2}, {4, 4}});
    Due.partsAre("rows exchanged, l below", x, f, new double[][] {{4, 4}, {0.25, 1}});
    Due.isNumber("-0 too", x.part(factorOf(x, 0, false, new double[][] {{-1, 0}, {0, 1}}), 1, 0), -0.0);
  }

  private static void promise15_noneWhenThereIsNoneSuch() {
    Due.says("-1 when there is none such");
    SystemLab x = withOne();
    for (int f : NO_FACTOR) {
      Due.is("part of " + f, x.part(f, 0, 0), -1);
    }
    for (int k : new int[] {-1, 2, 7, 8, LEAST, MOST}) {
      Due.is("part at row " + k, x.part(0, k, 0), -1);
      Due.is("part at column " + k, x.part(0, 0, k), -1);
    }
    Due.isNumber("the last", x.part(0, 1, 1), 2.5);
  }

  // ---- 16

  private static void promise16_whichRowAndWhichColumn() {
    Due.says("Which row (axis 0), column (1) of the matrix stands at k in a FACTOR's order");
    SystemLab x = new SystemLab();
    double[][] m = {{0, 0, 3, 0}, {1, 0, 0, 0}, {0, 0, 0, 2}, {0, 4, 0, 0}};
    int f = factorOf(x, 1, false, m);
    Due.orderIs("by rows", x, f, 0, 1, 3, 0, 2);
    Due.orderIs("by rows", x, f, 1, 0, 1, 2, 3);
    int g = factorOf(x, 2, false, m);
    Due.orderIs("by both", x, g, 0, 3, 0, 2, 1);
    Due.orderIs("by both", x, g, 1, 1, 2, 3, 0);
    int h = factorOf(x, 3, false, new double[][] {{1, 9}, {0, 2}});
    Due.orderIs("by roots", x, h, 0, 0, 1);
    Due.orderIs("by roots", x, h, 1, 0, 1);
  }

  private static void promise16_noneWhenThereIsNoneSuch() {
    Due.says("NONE when there is none such");
    SystemLab x = withOne();
    for (int f : NO_FACTOR) {
      Due.is("order of " + f, x.order(f, 0, 0), -1);
    }
    for (int axis : new int[] {-1, 2, LEAST, MOST}) {
      Due.is("axis " + axis, x.order(0, axis, 0), -1);
    }
    for (int k : new int[] {-1, 2, 7, 8, LEAST, MOST}) {
      Due.is("row at " + k, x.order(0, 0, k), -1);
      Due.is("column at " + k, x.order(0, 1, k), -1);
    }
    Due.is("the last row", x.order(0, 0, 1), 1);
    Due.is("the last column", x.order(0, 1, 1), 1);
  }

  // ---- 17

  private static void promise17_ofItsNumbersWithJNotBelowI() {
    Due.says("the greatest of its numbers at i, j with j not below i");
    SystemLab x = new SystemLab();
    Due.isNumber("l counts not", x.growth(factorOf(x, 0, false, new double[][] {{0.5, 0}, {4, 1}})), 0.25);
    Due.isNumber("the diagonal does", x.growth(factorOf(x, 0, false, new double[][] {{2, 0}, {0, 3}})), 1);
    Due.isNumber("above it does", x.growth(factorOf(x, 0, false, new double[][] {{2, 8}, {1, 3}})), 1);
    Due.isNumber("without sign", x.growth(factorOf(x, 0, false, new double[][] {{1, -3}, {4, -2}})), 2.5);
  }

  private static void promise17_byRootsWithJNotAboveI() {
    Due.says("(of METHOD 3: not above)");
    SystemLab x = new SystemLab();
    Due.isNumber("below counts", x.growth(factorOf(x, 3, false, new double[][] {{0.25, 0}, {-2, 20}})), 0.2);
    Due.isNumber("the diagonal does", x.growth(factorOf(x, 3, false, new double[][] {{16, 0}, {0, 1}})), 0.25);
  }

  private static void promise17_ofItsMatrixAsItWas() {
    Due.says("divided by the greatest of its matrix as it was");
    SystemLab x = new SystemLab();
    int m = Due.full(x, new double[][] {{1, 0}, {-8, 4}});
    int f = x.factor(m, 0, false);
    Due.isNumber("without sign, of the whole", x.growth(f), 0.5);
    x.put(m, 0, 0, Due.bits(1000));
    Due.isNumber("as it was, when it is another", x.growth(f), 0.5);
    x.drop(m);
    Due.isNumber("as it was, when it is gone", x.growth(f), 0.5);
    int r = factorOf(x, 3, false, new double[][] {{4, 32}, {0, 4}});
    Due.isNumber("by roots, of the whole too", x.growth(r), 0.0625);
  }

  private static void promise17_rounded() {
    Due.says("ROUNDED: BITS");
    SystemLab x = new SystemLab();
    Due.isNumber("1 / 3", x.growth(factorOf(x, 0, false, new double[][] {{0.5, 0}, {3, 1}})), 0x1.5555555555555p-2);
    Due.isNumber("2 / 3", x.growth(factorOf(x, 0, false, new double[][] {{2, 0}, {3, 1}})), 0x1.5555555555555p-1);
    double far = 1.5 * 0x1p1023;
    Due.isNumber("below all normal numbers", x.growth(factorOf(x, 0, false, new double[][] {{1, 0}, {far, 1}})),
        1 / far);
  }

  private static void promise17_thoseOfInfinityBeyondAllDoubles() {
    Due.says("(those of infinity beyond all doubles)");
    SystemLab x = new SystemLab();
    double b = 0x1p-520;
    double tiny = 0x1p-1040;
    int f = factorOf(x, 0, false, new double[][] {{tiny, 0, b}, {b, tiny, 0}, {0, b, 0}});
    Due.is("it is made", f, 0);
    Due.isNumber("beyond", x.growth(f), Double.POSITIVE_INFINITY);
    double c = 0x1p-512;
    int g = factorOf(x, 0, false, new double[][] {{0x1p-1023, 0, c}, {c, 0x1p-1023, 0}, {0, c, 0}});
    Due.isNumber("not beyond", x.growth(g), 0x1p1022);
  }

  private static void promise17_noneWhenThereIsNoneSuch() {
    Due.says("-1 when there is none such");
    SystemLab x = withOne();
    for (int f : NO_FACTOR) {
      Due.is("growth of " + f, x.growth(f), -1);
    }
  }

  // ---- 18

  private static void pivotsAre(String call, SystemLab x, int f, double p, long e) {
    Due.isNumber(call + ": p", x.pivots(f, 0), p);
    Due.is(call + ": e", x.pivots(f, 1), e);
  }

  private static void promise18_pFrom1ToBelow2() {
    Due.says("The determinant by a FACTOR as p * 2^e, p from 1 to below 2 without sign");
    SystemLab x = new SystemLab();
    for (double d : new double[] {1, 1.5, Math.nextDown(2.0), 2, Math.nextUp(2.0), 0.75, 0.5, Math.nextDown(1.0)}) {
      int e = Math.getExponent(d);
      pivotsAre(d + "", x, x.factor(Due.one(x, d), 0, false), Math.scalb(d, -e), e);
      pivotsAre(-d + "", x, x.factor(Due.one(x, -d), 0, false), Math.scalb(-d, -e), e);
      x.release(0);
      x.release(1);
    }
  }

  private static void promise18_subnormalPivots() {
    Due.says("being u * 2^t, u from 1 to below 2 without sign");
    SystemLab x = new SystemLab();
    pivotsAre("the least", x, x.factor(Due.one(x, MIN), 0, false), 1, -1074);
    pivotsAre("3 of it", x, x.factor(Due.one(x, -3 * MIN), 0, false), -1.5, -1073);
    pivotsAre("the greatest subnormal", x, x.factor(Due.one(x, 0x0.fffffffffffffp-1022), 0, false),
        0x1.ffffffffffffep0, -1023);
    pivotsAre("the least normal", x, x.factor(Due.one(x, Double.MIN_NORMAL), 0, false), 1, -1022);
    pivotsAre("the greatest", x, x.factor(Due.one(x, MAX), 0, false), Math.nextDown(2.0), 1023);
    pivotsAre("8 of the least", x, x.factor(Due.diagonal(x, MIN, MIN, MIN, MIN, MIN, MIN, MIN, MIN), 0, false),
        1, -8 * 1074);
  }

  private static void promise18_roundedEachTime() {
    Due.says("p * u, ROUNDED, e + t");
    SystemLab x = new SystemLab();
    double u = 1 + 0x1p-52;
    pivotsAre("three of u", x, x.factor(Due.diagonal(x, u, u, u), 0, false), 1 + 3 * 0x1p-52, 0);
    double a = 1 + 0x1p-27;
    pivotsAre("a * a, rounded, * a", x, x.factor(Due.diagonal(x, a, a, a), 0, false), a * a * a, 0);
  }

  private static void promise18_halfWhenNotBelow2() {
    Due.says("if that is not below 2 without sign, its half, and e + 1");
    SystemLab x = new SystemLab();
    pivotsAre("rounded to 2", x, x.factor(Due.diagonal(x, 1.5, 4.0 / 3), 0, false), 1, 1);
    pivotsAre("rounded to -2", x, x.factor(Due.diagonal(x, -1.5, 4.0 / 3), 0, false), -1, 1);
    pivotsAre("just below 2", x, x.factor(Due.diagonal(x, 1.25, Math.nextDown(1.6)), 0, false), Math.nextDown(2.0), 0);
    pivotsAre("2.25", x, x.factor(Due.diagonal(x, 1.5, 1.5), 0, false), 1.125, 1);
    pivotsAre("-2.25", x, x.factor(Due.diagonal(x, 1.5, -1.5), 0, false), -1.125, 1);
    pivotsAre("at each step", x, x.factor(Due.diagonal(x, 1.5, 1.5, 1.875), 0, false), 1.0546875, 2);
  }

  private static void promise18_byRootsMultipliedWithThemselves() {
    Due.says("Of METHOD 3 in the end p and e are multiplied so with themselves");
    SystemLab x = new SystemLab();
    pivotsAre("1.25 * 1.25", x, x.factor(Due.one(x, 1.5625), 3, false), 1.5625, 0);
    pivotsAre("1.5 * 1.5, its half", x, x.factor(Due.one(x, 2.25), 3, false), 1.125, 1);
    pivotsAre("e twice", x, x.factor(Due.one(x, 0x1p-20), 3, false), 1, -20);
    pivotsAre("e twice, and one more", x, x.factor(Due.one(x, 2.25 * 0x1p-20), 3, false), 1.125, -19);
    double h = Math.sqrt(1.1);
    pivotsAre("rounded", x, x.factor(Due.one(x, 1.1), 3, false), h * h, 0);
    double r = Math.sqrt(2);
    pivotsAre("rounded beyond 2", x, x.factor(Due.one(x, 2), 3, false), r * r / 2, 1);
    pivotsAre("in the end alone", x, x.factor(Due.diagonal(x, 1.1, 1.3), 3, false),
        h * Math.sqrt(1.3) * (h * Math.sqrt(1.3)), 0);
  }

  private static void promise18_signTurnedForRowsExchanged() {
    Due.says("p's sign is turned for each two rows, or columns, that were exchanged");
    SystemLab x = new SystemLab();
    pivotsAre("one", x, factorOf(x, 1, false, new double[][] {{0, 2}, {2, 0}}), -1, 2);
    pivotsAre("two", x, factorOf(x, 1, false, new double[][] {{0, 2, 0}, {0, 0, 2}, {2, 0, 0}}), 1, 3);
    pivotsAre("one of a number below 0", x, factorOf(x, 1, false, new double[][] {{0, -2}, {2, 0}}), 1, 2);
  }

  private static void promise18_signTurnedForColumnsExchanged() {
    Due.says("p's sign is turned for each two rows, or columns, that were exchanged");
    SystemLab x = new SystemLab();
    pivotsAre("columns alone", x, factorOf(x, 2, false, new double[][] {{1, 4}, {2, 0}}), -1, 3);
    pivotsAre("rows and columns", x, factorOf(x, 2, false, new double[][] {{1, 0}, {0, 4}}), 1, 2);
    pivotsAre("rows alone", x, factorOf(x, 2, false, new double[][] {{1, 2}, {4, 0}}), -1, 3);
  }

  private static void promise18_noneWithItself() {
    Due.says("(none with itself)");
    SystemLab x = new SystemLab();
    for (int method = 1; method < 3; method++) {
      pivotsAre("METHOD " + method, x, x.factor(Due.diagonal(x, 4, 2, 1), method, false), 1, 3);
    }
  }

  private static void promise18_noneWhenThereIsNoneSuch() {
    Due.says("-1 when there is none such");
    SystemLab x = withOne();
    for (int f : NO_FACTOR) {
      Due.is("p of " + f, x.pivots(f, 0), -1);
      Due.is("e of " + f, x.pivots(f, 1), -1);
    }
  }

  private static void promise18_noneForAnotherWhat() {
    Due.says("or for another what");
    SystemLab x = withOne();
    for (int what : new int[] {-1, 2, LEAST, MOST}) {
      Due.is("pivots(0, " + what + ")", x.pivots(0, what), -1);
    }
  }
}
