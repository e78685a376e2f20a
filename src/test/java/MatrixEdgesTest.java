/** Promises 1 to 12, each sentence that names an end or an edge by itself. */
public final class MatrixEdgesTest {
  private static final double MAX = Double.MAX_VALUE;
  private static final double MIN = Double.MIN_VALUE;
  private static final int LEAST = Integer.MIN_VALUE;
  private static final int MOST = Integer.MAX_VALUE;
  private static final int[] NO_MATRIX = {-1, 1, 23, 24, LEAST, MOST};
  private static final long ONE = Due.bits(1);

  public static void main(String[] args) {
    Due.runAll(MatrixEdgesTest.class);
  }

  /** An object whose matrix 0 alone is there: of 2 rows, 3 columns; 1 was there and is gone. */
  private static SystemLab withOne() {
    SystemLab x = new SystemLab();
    Due.full(x, new double[][] {{1, 2, 3}, {4, 5, 6}});
    x.drop(x.matrix(0, 2, 3, 0, 0));
    return x;
  }

  // ---- 1

  private static void promise1_nothingThere() {
    Due.says("Nothing there");
    SystemLab x = new SystemLab();
    for (int k = 0; k < 24; k++) {
      Due.is("matrix " + k, x.shape(k, 0), -1);
      Due.is("vector " + k, x.size(k), -1);
      Due.is("factor " + k, x.growth(k), -1);
    }
    for (int what = 0; what < 3; what++) {
      Due.is("count(" + what + ")", x.count(what), 0);
    }
    Due.is("place(0)", x.place(0), -1);
    Due.is("octet(0)", x.octet(0), -1);
  }

  private static void promise1_anEmptyTape() {
    Due.says("an empty tape");
    SystemLab x = new SystemLab();
    Due.is("count(3)", x.count(3), 0);
    Due.is("end(1)", x.end(1), false);
    Due.is("end(0)", x.end(0), true);
    Due.is("unpack()", x.unpack(), -1);
    Due.is("feed", x.feed(1, 2, 3, 4, 5), 20);
  }

  private static void promise1_eachObjectByItself() {
    Due.says("Nothing there, an empty tape");
    SystemLab x = withOne();
    x.vector(2);
    x.factor(Due.one(x, 2), 0, false);
    x.feed(1, 2, 3, 4, 5);
    x.pack(0);
    x.reorder(1);
    SystemLab y = new SystemLab();
    for (int what = 0; what < 4; what++) {
      Due.is("count(" + what + ") of another", y.count(what), 0);
    }
    Due.is("octet(0) of another", y.octet(0), -1);
    Due.is("place(0) of another", y.place(0), -1);
  }

  // ---- 2

  private static void zeros(String call, SystemLab x, int m, int rows, int columns) {
    for (int i = 0; i < rows; i++) {
      for (int j = 0; j < columns; j++) {
        Due.is(call + " at " + i + ", " + j, x.get(m, i, j), 0);
      }
    }
  }

  private static void promise2_ofZerosAlsoWhereAnotherStood() {
    Due.says("A matrix of 0s: its number");
    SystemLab x = new SystemLab();
    int m = x.matrix(0, 8, 8, 0, 0);
    for (int k = 0; k < 64; k++) {
      x.put(m, k / 8, k % 8, Due.bits(k + 1));
    }
    x.drop(m);
    Due.is("matrix", x.matrix(3, 8, 8, 0, 0), 0);
    zeros("made anew", x, 0, 8, 8);
    Due.is("numbers that are not 0", x.shape(0, 5), 0);
  }

  private static void promise2_ofZerosAfterACallThatWasRefused() {
    Due.says("A matrix of 0s");
    SystemLab x = new SystemLab();
    int m = Due.full(x, new double[][] {{3, 2}, {1, MAX}});
    Due.is("product that is refused at the last", x.product(m, m, false), -1);
    Due.is("matrix", x.matrix(0, 2, 2, 0, 0), 1);
    zeros("after it", x, 1, 2, 2);
    x.drop(1);
    Due.is("sum that is refused at the last", x.sum(m, m), -1);
    Due.is("matrix", x.matrix(2, 2, 2, 1, 1), 1);
    zeros("after it", x, 1, 2, 2);
    x.drop(1);
    Due.is("formed that is refused at the last", x.formed(m, 2, 1, 0), -1);
    Due.is("matrix", x.matrix(0, 2, 2, 0, 0), 1);
    zeros("after it", x, 1, 2, 2);
  }

  private static void promise2_noneWhenThereAre24() {
    Due.says("NONE when there are 24");
    SystemLab x = new SystemLab();
    for (int k = 0; k < 24; k++) {
      Due.is("matrix " + k, x.matrix(k % 4 == 2 ? 0 : k % 4, 2, 2, 0, 0), k);
    }
    Due.is("the 25th", x.matrix(0, 2, 2, 0, 0), -1);
    Due.is("count", x.count(0), 24);
    x.drop(23);
    Due.is("when the last is gone", x.matrix(0, 2, 2, 0, 0), 23);
    Due.is("and none again", x.matrix(0, 2, 2, 0, 0), -1);
  }

  private static void promise2_noneWhenItIsNoneSuch() {
    Due.says("or it is none such");
    SystemLab x = new SystemLab();
    int[][] none = {{-1, 2, 2, 0, 0}, {5, 2, 2, 0, 0}, {LEAST, 2, 2, 0, 0}, {MOST, 2, 2, 0, 0}, {0, 0, 2, 0, 0},
      {0, 2, 0, 0, 0}, {0, 9, 2, 0, 0}, {0, 2, 9, 0, 0}, {0, MOST, MOST, 0, 0}, {0, LEAST, LEAST, 0, 0}, {1, 2, 3, 0, 0},
      {1, 9, 9, 0, 0}, {2, 3, 2, 1, 1}, {2, 3, 3, 8, 1}, {2, 3, 3, 1, MOST}, {2, 3, 3, LEAST, 1}, {4, 4, 4, 3, 4},
      {4, 4, 4, 4, 3}, {4, 4, 4, 0, 4}, {4, 4, 4, 4, 0}, {4, 4, 4, LEAST, 4}, {4, 4, 4, 4, -1}, {3, 4, 4, 20, 0}};
    for (int[] p : none) {
      Due.is("matrix " + java.util.Arrays.toString(p), x.matrix(p[0], p[1], p[2], p[3], p[4]), -1);
    }
    Due.is("nothing was made", x.count(0), 0);
  }

  // ---- 3

  private static void promise3_aMatrixGoes() {
    Due.says("A matrix goes: true");
    SystemLab x = new SystemLab();
    Due.crowdMatrices(x);
    for (int m : new int[] {0, 23, 11}) {
      Due.is("drop " + m, x.drop(m), true);
      Due.is("it is gone", x.get(m, 0, 0), -1);
    }
    Due.is("the others stay", x.count(0), 21);
  }

  private static void promise3_falseWhenThereIsNoneSuch() {
    Due.says("false when there is none such");
    SystemLab x = withOne();
    for (int m : NO_MATRIX) {
      Due.is("drop " + m, x.drop(m), false);
    }
    Due.is("drop", x.drop(0), true);
    Due.is("drop again", x.drop(0), false);
  }

  // ---- 4

  private static void promise4_aNumberComesToAPlace() {
    Due.says("A number comes to a place: true");
    SystemLab x = withOne();
    for (int k = 0; k < 6; k++) {
      Due.is("put at " + k, x.put(0, k / 3, k % 3, Due.bits(-k - 10)), true);
    }
    Due.matrixIs("they are there", x, 0, new double[][] {{-10, -11, -12}, {-13, -14, -15}});
  }

  private static void promise4_falseWhenThereIsNoSuchMatrix() {
    Due.says("false when there is no such matrix");
    SystemLab x = withOne();
    for (int m : NO_MATRIX) {
      Due.is("put of " + m, x.put(m, 0, 0, ONE), false);
    }
    Due.is("put", x.put(0, 0, 0, ONE), true);
  }

  private static void promise4_falseWhenThereIsNoSuchRowOrColumn() {
    Due.says("or place in its FORM");
    SystemLab x = withOne();
    for (int[] p : new int[][] {{-1, 0}, {2, 0}, {0, -1}, {0, 3}, {LEAST, 0}, {0, MOST}, {1 << 29, 0}, {-1, 8}, {1, 3}}) {
      Due.is("put at " + p[0] + ", " + p[1], x.put(0, p[0], p[1], ONE), false);
    }
    Due.matrixIs("it stays", x, 0, new double[][] {{1, 2, 3}, {4, 5, 6}});
  }

  private static void promise4_falseWhenTheFormHasNotThePlace() {
    Due.says("or place in its FORM");
    SystemLab x = new SystemLab();
    x.matrix(1, 3, 3, 0, 0);
    x.matrix(2, 3, 3, 1, 0);
    for (long bits : new long[] {ONE, 0, Due.bits(-0.0)}) {
      Due.is("LOWER, above the diagonal", x.put(0, 1, 2, bits), false);
      Due.is("LOWER, on it", x.put(0, 2, 2, bits), true);
      Due.is("BAND, i - j 2", x.put(1, 2, 0, bits), false);
      Due.is("BAND, i - j 1", x.put(1, 2, 1, bits), true);
      Due.is("BAND, j - i 1", x.put(1, 0, 1, bits), false);
      Due.is("BAND, j - i 0", x.put(1, 0, 0, bits), true);
    }
  }

  private static void promise4_falseWhenTheNumberIsNotFinite() {
    Due.says("the number is not finite");
    SystemLab x = withOne();
    long infinite = Due.bits(Double.POSITIVE_INFINITY);
    for (long bits : new long[] {infinite, infinite | Long.MIN_VALUE, infinite + 1, -1L, Due.bits(Double.NaN),
      Long.MAX_VALUE, infinite | Long.MIN_VALUE | 1}) {
      Due.is("put " + bits, x.put(0, 1, 2, bits), false);
      Due.isNumber("the number stays", x.get(0, 1, 2), 6);
    }
    Due.is("the greatest", x.put(0, 1, 2, infinite - 1), true);
    Due.isNumber("the greatest", x.get(0, 1, 2), MAX);
    Due.is("the greatest below 0", x.put(0, 1, 2, infinite - 1 | Long.MIN_VALUE), true);
    Due.isNumber("the greatest below 0", x.get(0, 1, 2), -MAX);
  }

  private static SystemLab sparseOf20() {
    SystemLab x = new SystemLab();
    x.matrix(3, 5, 5, 0, 0);
    for (int k = 0; k < 20; k++) {
      x.put(0, k / 5, k % 5, Due.bits(k + 1));
    }
    return x;
  }

  private static void promise4_falseWhenItWouldBeThe21stOfASparseOne() {
    Due.says("or it would be the 21st of a SPARSE one");
    SystemLab x = sparseOf20();
    for (double d : new double[] {1, -1, MIN, -MIN, MAX}) {
      Due.is("the 21st, " + d, x.put(0, 4, 4, Due.bits(d)), false);
    }
    Due.is("it is not there", x.get(0, 4, 4), 0);
    Due.is("20 are", x.shape(0, 5), 20);
  }

  private static void promise4_aNumberInThePlaceOfOneIsNotThe21st() {
    Due.says("or it would be the 21st of a SPARSE one");
    SystemLab x = sparseOf20();
    Due.is("in the place of one", x.put(0, 0, 0, Due.bits(77)), true);
    Due.isNumber("it is there", x.get(0, 0, 0), 77);
    Due.is("a 0 at a place that has none", x.put(0, 4, 4, 0), true);
    Due.is("a -0 at a place that has none", x.put(0, 4, 4, Due.bits(-0.0)), true);
    Due.is("20 are there", x.shape(0, 5), 20);
    Due.is("a -0 in the place of one", x.put(0, 0, 0, Due.bits(-0.0)), true);
    Due.is("so there is room", x.put(0, 4, 4, ONE), true);
    Due.is("for one", x.put(0, 0, 0, ONE), false);
  }

  private static void promise4_otherFormsHaveMoreThan20() {
    Due.says("or it would be the 21st of a SPARSE one");
    for (int form : new int[] {0, 1, 2, 4}) {
      SystemLab x = new SystemLab();
      x.matrix(form, 8, 8, form == 2 ? 7 : form == 4 ? 1 : 0, form == 4 ? 1 : 0);
      for (int k = 0; k < 64; k++) {
        x.put(0, k / 8, k % 8, ONE);
      }
      Due.is("numbers of FORM " + form, x.shape(0, 5), form == 0 || form == 4 ? 64 : 36);
    }
  }

  // ---- 5

  private static void promise5_alsoOneThatTheFormHasNot() {
    Due.says("BITS of the number at a place (also one that the FORM has not)");
    SystemLab x = new SystemLab();
    x.matrix(1, 8, 8, 0, 0);
    x.matrix(2, 8, 8, 0, 0);
    Due.is("LOWER", x.get(0, 0, 7), 0);
    Due.is("BAND, below", x.get(1, 7, 0), 0);
    Due.is("BAND, above", x.get(1, 0, 7), 0);
  }

  private static void promise5_noneWhenThereIsNoSuchMatrix() {
    Due.says("-1 when there is no such matrix");
    SystemLab x = withOne();
    for (int m : NO_MATRIX) {
      Due.is("get of " + m, x.get(m, 0, 0), -1);
    }
  }

  private static void promise5_noneWhenThereIsNoSuchRow() {
    Due.says("no such matrix, row or column");
    SystemLab x = withOne();
    for (int i : new int[] {-1, 2, 7, 8, LEAST, MOST, 1 << 29}) {
      Due.is("get at row " + i, x.get(0, i, 0), -1);
    }
    Due.isNumber("the last row", x.get(0, 1, 0), 4);
  }

  private static void promise5_noneWhenThereIsNoSuchColumn() {
    Due.says("no such matrix, row or column");
    SystemLab x = withOne();
    for (int j : new int[] {-1, 3, 7, 8, LEAST, MOST}) {
      Due.is("get at column " + j, x.get(0, 1, j), -1);
    }
    Due.isNumber("the last column", x.get(0, 1, 2), 6);
  }

  // ---- 6

  private static void promise6_whetherItIsOnTheLattice() {
    Due.says("6 whether it is on the LATTICE (1, 0)");
    SystemLab x = withOne();
    Due.is("on it", x.shape(0, 6), 1);
    x.put(0, 1, 2, Due.bits(Math.nextUp(0x1p40)));
    Due.is("off it", x.shape(0, 6), 0);
    x.put(0, 1, 2, Due.bits(-0x1p40));
    Due.is("on it again", x.shape(0, 6), 1);
    Due.is("of 0s", x.shape(x.matrix(3, 2, 7, 0, 0), 6), 1);
  }

  private static void promise6_itsWidthNoneIfNotSquare() {
    Due.says("7 its WIDTH (NONE, if it has not as many rows as columns)");
    SystemLab x = withOne();
    Due.is("more columns", x.shape(0, 7), -1);
    Due.is("more rows", x.shape(x.transpose(0), 7), -1);
    Due.is("as many", x.shape(x.block(0, 0, 0, 2, 2), 7), 1);
  }

  private static void promise6_numbersThatAreNot0() {
    Due.says("5 numbers that are not 0");
    SystemLab x = new SystemLab();
    x.matrix(0, 8, 8, 0, 0);
    Due.is("none", x.shape(0, 5), 0);
    for (int k = 0; k < 64; k++) {
      x.put(0, k / 8, k % 8, Due.bits(-MIN));
      Due.is("one more", x.shape(0, 5), k + 1);
    }
    x.put(0, 7, 7, Due.bits(-0.0));
    Due.is("one less", x.shape(0, 5), 63);
  }

  private static void promise6_formRowsColumnsAB() {
    Due.says("Of a matrix: 0 FORM, 1 rows, 2 columns, 3 a, 4 b");
    SystemLab x = new SystemLab();
    int[][] made = {{0, 1, 8, 0, 0}, {1, 8, 8, 0, 0}, {2, 3, 3, 7, 0}, {2, 3, 3, 0, 7}, {3, 8, 1, 0, 0}, {4, 6, 8, 2, 4}};
    for (int[] p : made) {
      int m = x.matrix(p[0], p[1], p[2], p[3], p[4]);
      for (int what = 0; what < 5; what++) {
        Due.is("shape(" + m + ", " + what + ")", x.shape(m, what), p[what]);
      }
    }
  }

  private static void promise6_noneWhenThereIsNoneSuch() {
    Due.says("NONE when there is none such");
    SystemLab x = withOne();
    for (int m : NO_MATRIX) {
      for (int what = 0; what < 8; what++) {
        Due.is("shape(" + m + ", " + what + ")", x.shape(m, what), -1);
      }
    }
  }

  private static void promise6_noneForAnotherWhat() {
    Due.says("or for another what");
    SystemLab x = withOne();
    for (int what : new int[] {-1, 8, 9, LEAST, MOST}) {
      Due.is("shape(0, " + what + ")", x.shape(0, what), -1);
    }
  }

  // ---- 7

  private static void promise7_noneWhenOneIsNotThere() {
    Due.says("NONE: one is not there");
    SystemLab x = withOne();
    for (int m : NO_MATRIX) {
      Due.is("sum(0, " + m + ")", x.sum(0, m), -1);
      Due.is("sum(" + m + ", 0)", x.sum(m, 0), -1);
      Due.is("sum of " + m + " and itself", x.sum(m, m), -1);
    }
    Due.is("nothing was made", x.count(0), 1);
  }

  private static void promise7_noneWhenNotOfAsManyRowsAndColumns() {
    Due.says("they are not of as many rows and columns");
    SystemLab x = withOne();
    int rows = x.matrix(0, 3, 3, 0, 0);
    int columns = x.matrix(0, 2, 2, 0, 0);
    int turned = x.matrix(0, 3, 2, 0, 0);
    for (int m : new int[] {rows, columns, turned}) {
      Due.is("sum(0, " + m + ")", x.sum(0, m), -1);
      Due.is("sum(" + m + ", 0)", x.sum(m, 0), -1);
    }
  }

  private static void promise7_noneWhenANumberIsNotFinite() {
    Due.says("a number is not finite");
    for (int k = 0; k < 6; k++) {
      SystemLab x = withOne();
      int m = x.matrix(0, 2, 3, 0, 0);
      x.put(0, k / 3, k % 3, Due.bits(-MAX));
      x.put(m, k / 3, k % 3, Due.bits(-0x1p970));
      Due.is("at " + k, x.sum(0, m), -1);
      Due.is("nothing was made", x.count(0), 2);
      x.put(m, k / 3, k % 3, Due.bits(Math.nextUp(-0x1p970)));
      Due.isNumber("just finite", x.get(x.sum(0, m), k / 3, k % 3), -MAX);
    }
  }

  private static void promise7_noneWhenThereAre24() {
    Due.says("a number is not finite, or there are 24");
    SystemLab x = withOne();
    Due.crowdMatrices(x);
    Due.is("sum beside 24", x.sum(0, 0), -1);
    Due.is("24 are there", x.count(0), 24);
    x.drop(23);
    Due.is("sum beside 23", x.sum(0, 0), 23);
  }

  // ---- 8

  private static void promise8_noneWhenOneIsNotThere() {
    Due.says("NONE: one is not there");
    SystemLab x = new SystemLab();
    Due.one(x, 2);
    for (int m : NO_MATRIX) {
      Due.is("product(0, " + m + ")", x.product(0, m, false), -1);
      Due.is("product(" + m + ", 0)", x.product(m, 0, true), -1);
      Due.is("product of " + m + " and itself", x.product(m, m, false), -1);
    }
  }

  private static void promise8_noneWhenColumnsAreNotAsManyAsRows() {
    Due.says("the columns of x are not as many as the rows of y");
    SystemLab x = withOne();
    int y = x.matrix(0, 2, 3, 0, 0);
    int z = x.matrix(0, 3, 1, 0, 0);
    Due.is("3 columns, 2 rows", x.product(0, y, false), -1);
    Due.is("1 column, 2 rows", x.product(z, 0, true), -1);
    Due.is("3 columns, 3 rows", x.product(0, z, true), 3);
    Due.is("rows of the product", x.shape(3, 1), 2);
    Due.is("columns of the product", x.shape(3, 2), 1);
  }

  private static void promise8_noneWhenANumberIsNotFinite() {
    Due.says("a number (also s on the way) is not finite");
    for (boolean fused : new boolean[] {false, true}) {
      for (int k = 0; k < 4; k++) {
        SystemLab x = new SystemLab();
        int one = Due.diagonal(x, 1, 1);
        int m = x.matrix(0, 2, 2, 0, 0);
        x.put(m, k / 2, k % 2, Due.bits(MAX));
        Due.is("finite", x.product(one, m, fused), 2);
        x.put(one, k / 2, k / 2, Due.bits(1 + 0x1p-52));
        Due.is("not finite at " + k, x.product(one, m, fused), -1);
        Due.is("nothing was made", x.count(0), 3);
      }
    }
  }

  private static void promise8_noneWhenSOnTheWayIsNotFinite() {
    Due.says("(also s on the way)");
    for (boolean fused : new boolean[] {false, true}) {
      SystemLab x = new SystemLab();
      int up = Due.full(x, new double[][] {{MAX, MAX, -MAX}});
      int ones = Due.full(x, new double[][] {{1}, {1}, {1}});
      Due.is("it would come back", x.product(up, ones, fused), -1);
      int down = Due.full(x, new double[][] {{-MAX, -MAX, MAX}});
      Due.is("below 0", x.product(down, ones, fused), -1);
      int back = Due.full(x, new double[][] {{MAX, -MAX, MAX}});
      Due.isNumber("it stays finite", x.get(x.product(back, ones, fused), 0, 0), MAX);
    }
  }

  private static void promise8_aProductAloneIsNotFinite() {
    Due.says("a number (also s on the way) is not finite");
    SystemLab x = new SystemLab();
    int p = Due.full(x, new double[][] {{-MAX, 2}});
    int q = Due.full(x, new double[][] {{1}, {MAX}});
    Due.is("not fused", x.product(p, q, false), -1);
    Due.isNumber("FUSED, it is rounded once", x.get(x.product(p, q, true), 0, 0), MAX);
  }

  private static void promise8_noneWhenThereAre24() {
    Due.says("is not finite, or there are 24");
    SystemLab x = new SystemLab();
    Due.one(x, 3);
    Due.crowdMatrices(x);
    Due.is("product beside 24", x.product(0, 0, false), -1);
    x.drop(7);
    Due.is("product beside 23", x.product(0, 0, false), 7);
  }

  // ---- 9

  private static void promise9_rowsBecomeColumns() {
    Due.says("Rows become columns: a new matrix");
    SystemLab x = new SystemLab();
    int m = x.matrix(0, 1, 8, 0, 0);
    x.put(m, 0, 7, ONE);
    int t = x.transpose(m);
    Due.is("rows", x.shape(t, 1), 8);
    Due.is("columns", x.shape(t, 2), 1);
    Due.isNumber("the last", x.get(t, 7, 0), 1);
    Due.is("one alone", x.shape(t, 5), 1);
    int two = Due.full(x, new double[][] {{1, 2, 3}, {4, 5, 6}});
    Due.matrixIs("all of them", x, x.transpose(two), new double[][] {{1, 4}, {2, 5}, {3, 6}});
  }

  private static void promise9_noneWhenItIsNotThere() {
    Due.says("NONE: it is not there");
    SystemLab x = withOne();
    for (int m : NO_MATRIX) {
      Due.is("transpose(" + m + ")", x.transpose(m), -1);
    }
    Due.is("nothing was made", x.count(0), 1);
  }

  private static void promise9_noneWhenThereAre24() {
    Due.says("or there are 24");
    SystemLab x = withOne();
    Due.crowdMatrices(x);
    Due.is("transpose beside 24", x.transpose(0), -1);
    x.drop(1);
    Due.is("transpose beside 23", x.transpose(0), 1);
  }

  // ---- 10

  private static void promise10_noneWhenItIsNotThere() {
    Due.says("NONE: it is not there");
    SystemLab x = withOne();
    for (int m : NO_MATRIX) {
      Due.is("formed(" + m + ")", x.formed(m, 0, 0, 0), -1);
    }
  }

  private static void promise10_noneWhenThereIsNoSuchFormForIt() {
    Due.says("there is no such FORM for it");
    SystemLab x = withOne();
    int[][] none = {{-1, 0, 0}, {5, 0, 0}, {LEAST, 0, 0}, {MOST, 0, 0}, {0, 1, 0}, {0, 0, 1}, {3, 2, 3}, {1, 0, 0},
      {2, 7, 7}, {4, 0, 0}, {4, 3, 3}, {4, 2, 2}, {4, -1, 3}, {4, 4, 6}};
    for (int[] p : none) {
      Due.is("formed " + java.util.Arrays.toString(p), x.formed(0, p[0], p[1], p[2]), -1);
    }
    int square = x.matrix(0, 3, 3, 0, 0);
    Due.is("BAND 8", x.formed(square, 2, 8, 0), -1);
    Due.is("BAND -1", x.formed(square, 2, 0, -1), -1);
    Due.is("LOWER with a 1", x.formed(square, 1, 1, 0), -1);
    Due.is("BLOCKS 2, 3", x.formed(0, 4, 2, 3), 2);
    Due.is("LOWER of 3", x.formed(square, 1, 0, 0), 3);
    Due.is("BAND 7, 7 of 3", x.formed(square, 2, 7, 7), 4);
  }

  private static void promise10_noneWhenANumberHasNoPlace() {
    Due.says("a number that is not 0 has no place");
    for (int k = 0; k < 16; k++) {
      SystemLab x = new SystemLab();
      int i = k / 4;
      int j = k % 4;
      int m = x.matrix(0, 4, 4, 0, 0);
      x.put(m, i, j, Due.bits(-MIN));
      Due.is("LOWER, at " + i + ", " + j, x.formed(m, 1, 0, 0) > 0, j <= i);
      Due.is("BAND 1, 2, at " + i + ", " + j, x.formed(m, 2, 1, 2) > 0, i - j <= 1 && j - i <= 2);
      Due.is("BAND 0, 0, at " + i + ", " + j, x.formed(m, 2, 0, 0) > 0, i == j);
      Due.is("FULL, at " + i + ", " + j, x.formed(m, 0, 0, 0) > 0, true);
    }
  }

  private static void promise10_noneWhenThe21stHasNoPlaceInASparseOne() {
    Due.says("a number that is not 0 has no place");
    SystemLab x = new SystemLab();
    x.matrix(0, 8, 8, 0, 0);
    for (int k = 0; k < 20; k++) {
      x.put(0, k % 8, k / 8, Due.bits(k + 1));
    }
    Due.is("20", x.formed(0, 3, 0, 0), 1);
    Due.is("the same", x.same(0, 1), 1);
    x.put(0, 7, 7, ONE);
    Due.is("21", x.formed(0, 3, 0, 0), -1);
    Due.is("nothing was made", x.count(0), 2);
  }

  private static void promise10_noneWhenThereAre24() {
    Due.says("a number that is not 0 has no place, or there are 24");
    SystemLab x = withOne();
    Due.crowdMatrices(x);
    Due.is("formed beside 24", x.formed(0, 0, 0, 0), -1);
    x.drop(20);
    Due.is("formed beside 23", x.formed(0, 0, 0, 0), 20);
  }

  // ---- 11

  private static void promise11_noneWhenItIsNotThere() {
    Due.says("NONE: it is not there");
    SystemLab x = withOne();
    for (int m : NO_MATRIX) {
      Due.is("block of " + m, x.block(m, 0, 0, 1, 1), -1);
    }
  }

  private static void promise11_noneWhenSomeAreNotThere() {
    Due.says("some are not there");
    SystemLab x = withOne();
    int[][] none = {{-1, 0, 1, 1}, {0, -1, 1, 1}, {2, 0, 1, 1}, {0, 3, 1, 1}, {0, 0, 3, 1}, {0, 0, 1, 4}, {1, 0, 2, 1},
      {0, 1, 1, 3}, {0, 2, 1, 2}, {1, 1, MOST, 1}, {1, 1, 1, MOST}, {MOST, 0, MOST, 1}, {0, MOST, 1, MOST},
      {-1, 0, 3, 3}, {0, -1, 2, 4}, {LEAST, 0, 1, 1}, {0, LEAST, 1, 1}};
    for (int[] p : none) {
      Due.is("block " + java.util.Arrays.toString(p), x.block(0, p[0], p[1], p[2], p[3]), -1);
    }
    Due.is("nothing was made", x.count(0), 1);
  }

  private static void promise11_noneOfNoRowsOrColumns() {
    Due.says("So many rows and columns from a place on");
    SystemLab x = withOne();
    for (int[] p : new int[][] {{0, 1}, {1, 0}, {0, 0}, {-1, 1}, {1, -1}, {LEAST, 1}, {1, LEAST}}) {
      Due.is("block of " + p[0] + ", " + p[1], x.block(0, 0, 0, p[0], p[1]), -1);
      Due.is("from the last place", x.block(0, 1, 2, p[0], p[1]), -1);
    }
  }

  private static void promise11_theWholeAndTheLastPlace() {
    Due.says("So many rows and columns from a place on: a new matrix");
    SystemLab x = withOne();
    Due.matrixIs("the whole", x, x.block(0, 0, 0, 2, 3), new double[][] {{1, 2, 3}, {4, 5, 6}});
    Due.matrixIs("the last place", x, x.block(0, 1, 2, 1, 1), new double[][] {{6}});
    Due.matrixIs("the last column", x, x.block(0, 0, 2, 2, 1), new double[][] {{3}, {6}});
    Due.matrixIs("the last row", x, x.block(0, 1, 0, 1, 3), new double[][] {{4, 5, 6}});
  }

  private static void promise11_noneWhenThereAre24() {
    Due.says("some are not there, or there are 24");
    SystemLab x = withOne();
    Due.crowdMatrices(x);
    Due.is("block beside 24", x.block(0, 0, 0, 1, 1), -1);
    x.drop(2);
    Due.is("block beside 23", x.block(0, 0, 0, 1, 1), 2);
  }

  // ---- 12

  private static void promise12_noneWhenOneIsNotThere() {
    Due.says("NONE: one is not there");
    SystemLab x = withOne();
    for (int m : NO_MATRIX) {
      Due.is("same(0, " + m + ")", x.same(0, m), -1);
      Due.is("same(" + m + ", 0)", x.same(m, 0), -1);
      Due.is("same of " + m + " and itself", x.same(m, m), -1);
    }
  }

  private static void promise12_zeroWhenNotAsManyRowsOrColumns() {
    Due.says("Whether two matrices have as many rows, columns");
    SystemLab x = new SystemLab();
    int m = x.matrix(0, 2, 3, 0, 0);
    Due.is("another of 0s", x.same(m, x.matrix(3, 2, 3, 0, 0)), 1);
    Due.is("more rows", x.same(m, x.matrix(0, 3, 3, 0, 0)), 0);
    Due.is("less columns", x.same(m, x.matrix(0, 2, 2, 0, 0)), 0);
    Due.is("turned", x.same(m, x.matrix(0, 3, 2, 0, 0)), 0);
  }

  private static void promise12_zeroWhenOneNumberIsAnother() {
    Due.says("and the same numbers: 1, 0");
    SystemLab x = withOne();
    int y = x.formed(0, 4, 2, 1);
    Due.is("the FORM does not count", x.same(0, y), 1);
    for (int k = 0; k < 6; k++) {
      long bits = x.get(y, k / 3, k % 3);
      x.put(y, k / 3, k % 3, bits + 1);
      Due.is("another at " + k, x.same(0, y), 0);
      Due.is("turned", x.same(y, 0), 0);
      x.put(y, k / 3, k % 3, bits);
    }
    Due.is("the same again", x.same(y, 0), 1);
  }

  private static void promise12_minusZeroIsTheSameAs0() {
    Due.says("and the same numbers");
    SystemLab x = new SystemLab();
    int p = Due.one(x, -0.0);
    int q = x.matrix(0, 1, 1, 0, 0);
    Due.is("-0 became 0", x.same(p, q), 1);
  }
}
