/** Promises 1 to 12: a new object, and matrices. */
public final class MatricesTest {
  private static final double MAX = Double.MAX_VALUE;
  private static final double MIN = Double.MIN_VALUE;
  private static final long INFINITE = Due.bits(Double.POSITIVE_INFINITY);

  public static void main(String[] args) {
    promise1NewObject();
    promise2Matrix();
    promise2Forms();
    promise3Drop();
    promise4Put();
    promise4Forms();
    promise4Sparse();
    promise5Get();
    promise6Shape();
    promise6Lattice();
    promise7Sum();
    promise8Product();
    promise8OnTheWay();
    promise9Transpose();
    promise10Formed();
    promise10Sparse();
    promise11Block();
    promise12Same();
    noRoomForMore();
    Due.end("MatricesTest");
  }

  private static void promise1NewObject() {
    SystemLab x = new SystemLab();
    for (int what = 0; what < 4; what++) {
      Due.is("new: count(" + what + ")", x.count(what), 0);
    }
    Due.is("new: octet(0)", x.octet(0), -1);
    Due.is("new: place(0)", x.place(0), -1);
    Due.is("new: shape(0, 0)", x.shape(0, 0), -1);
    Due.is("new: size(0)", x.size(0), -1);
    Due.is("new: growth(0)", x.growth(0), -1);
    Due.is("new: end(1)", x.end(1), false);
    Due.is("new: take()", x.take(), 0);
    SystemLab y = new SystemLab();
    x.matrix(0, 1, 1, 0, 0);
    Due.is("objects are apart", y.count(0), 0);
  }

  private static void promise2Matrix() {
    SystemLab x = new SystemLab();
    for (int k = 0; k < 24; k++) {
      Due.is("matrix, the least number that is free", x.matrix(0, 2, 2, 0, 0), k);
    }
    Due.is("the 25th matrix", x.matrix(0, 2, 2, 0, 0), -1);
    x.put(7, 1, 1, Due.bits(5));
    x.drop(11);
    x.drop(7);
    Due.is("matrix after drop(11), drop(7)", x.matrix(0, 3, 2, 0, 0), 7);
    Due.matrixIs("made anew", x, 7, new double[3][2]);
    Due.is("matrix again", x.matrix(3, 3, 2, 0, 0), 11);
    Due.is("matrix, none free", x.matrix(0, 1, 1, 0, 0), -1);
  }

  private static void form(int due, int form, int rows, int columns, int a, int b) {
    SystemLab x = new SystemLab();
    String call = "matrix(" + form + ", " + rows + ", " + columns + ", " + a + ", " + b + ")";
    Due.is(call, x.matrix(form, rows, columns, a, b), due);
    Due.is(call + " count", x.count(0), due + 1);
    int[] shape = {form, rows, columns, a, b};
    for (int k = 0; k < 5; k++) {
      Due.is(call + " shape " + k, x.shape(0, k), due == 0 ? shape[k] : -1);
    }
  }

  private static void promise2Forms() {
    form(0, 0, 8, 8, 0, 0);
    form(0, 0, 1, 1, 0, 0);
    form(0, 0, 1, 8, 0, 0);
    form(-1, 0, 0, 1, 0, 0);
    form(-1, 0, 1, 0, 0, 0);
    form(-1, 0, 9, 1, 0, 0);
    form(-1, 0, 1, 9, 0, 0);
    form(-1, 0, -1, -1, 0, 0);
    form(-1, 0, 2, 2, 1, 0);
    form(-1, 0, 2, 2, 0, 1);
    form(0, 1, 4, 4, 0, 0);
    form(-1, 1, 4, 3, 0, 0);
    form(-1, 1, 4, 4, 1, 0);
    form(-1, 1, 4, 4, 0, -1);
    form(0, 2, 4, 4, 0, 0);
    form(0, 2, 2, 2, 7, 7);
    form(-1, 2, 2, 2, 8, 7);
    form(-1, 2, 2, 2, 7, 8);
    form(-1, 2, 2, 2, -1, 0);
    form(-1, 2, 2, 2, 0, -1);
    form(-1, 2, 3, 4, 1, 1);
    form(0, 3, 3, 7, 0, 0);
    form(-1, 3, 3, 7, 1, 0);
    form(-1, 3, 3, 7, 0, 2);
    form(0, 4, 4, 6, 2, 3);
    form(0, 4, 4, 6, 4, 6);
    form(0, 4, 4, 6, 1, 1);
    form(-1, 4, 4, 6, 3, 3);
    form(-1, 4, 4, 6, 2, 4);
    form(-1, 4, 4, 6, 8, 6);
    form(-1, 4, 4, 6, 0, 3);
    form(-1, 4, 4, 6, 2, 0);
    form(-1, 4, 4, 6, -2, 3);
    form(-1, 4, 4, 6, 2, -3);
    form(-1, 4, 4, 6, Integer.MIN_VALUE, Integer.MIN_VALUE);
    form(-1, -1, 2, 2, 0, 0);
    form(-1, 5, 2, 2, 0, 0);
    form(-1, Integer.MAX_VALUE, Integer.MAX_VALUE, Integer.MIN_VALUE, 0, 0);
  }

  private static void promise3Drop() {
    SystemLab x = new SystemLab();
    x.matrix(0, 1, 1, 0, 0);
    x.matrix(0, 1, 1, 0, 0);
    Due.is("drop(0)", x.drop(0), true);
    Due.is("drop(0) again", x.drop(0), false);
    Due.is("get of a dropped one", x.get(0, 0, 0), -1);
    Due.is("the other stays", x.get(1, 0, 0), 0);
    for (int m : new int[] {-1, 2, 24, Integer.MAX_VALUE, Integer.MIN_VALUE}) {
      Due.is("drop(" + m + ")", x.drop(m), false);
    }
    Due.is("count after drop", x.count(0), 1);
  }

  private static void promise4Put() {
    SystemLab x = new SystemLab();
    x.matrix(0, 2, 3, 0, 0);
    Due.is("put", x.put(0, 1, 2, Due.bits(-1.5)), true);
    Due.isNumber("what was put", x.get(0, 1, 2), -1.5);
    for (double d : new double[] {Double.NaN, Double.POSITIVE_INFINITY, Double.NEGATIVE_INFINITY}) {
      Due.is("put " + d, x.put(0, 1, 2, Due.bits(d)), false);
    }
    Due.is("put bits -1", x.put(0, 1, 2, -1L), false);
    Due.is("put a NaN of other bits", x.put(0, 1, 2, INFINITE + 1), false);
    Due.isNumber("the number stays", x.get(0, 1, 2), -1.5);
    Due.is("put -0", x.put(0, 1, 2, Due.bits(-0.0)), true);
    Due.isNumber("-0 becomes 0", x.get(0, 1, 2), 0);
    Due.is("put the greatest", x.put(0, 0, 0, Due.bits(-MAX)), true);
    Due.isNumber("the greatest", x.get(0, 0, 0), -MAX);
    Due.is("put the least", x.put(0, 0, 0, Due.bits(MIN)), true);
    Due.isNumber("the least", x.get(0, 0, 0), MIN);
    int[][] none = {{0, 2, 0}, {0, 0, 3}, {0, -1, 0}, {0, 0, -1}, {1, 0, 0}, {-1, 0, 0}, {24, 0, 0},
      {0, 1 << 29, 1}, {0, 0, 8}};
    for (int[] p : none) {
      Due.is("put " + p[0] + ", " + p[1] + ", " + p[2], x.put(p[0], p[1], p[2], Due.bits(1)), false);
    }
    Due.is("numbers that are not 0", x.shape(0, 5), 1);
  }

  private static void promise4Forms() {
    SystemLab x = new SystemLab();
    x.matrix(1, 4, 4, 0, 0);
    x.matrix(2, 4, 4, 1, 2);
    x.matrix(4, 4, 4, 2, 2);
    x.matrix(2, 4, 4, 0, 7);
    for (int i = 0; i < 4; i++) {
      for (int j = 0; j < 4; j++) {
        String at = i + ", " + j;
        Due.is("LOWER " + at, x.put(0, i, j, Due.bits(1)), j <= i);
        Due.is("BAND 1, 2 " + at, x.put(1, i, j, Due.bits(1)), i - j <= 1 && j - i <= 2);
        Due.is("BLOCKS " + at, x.put(2, i, j, Due.bits(1)), true);
        Due.is("BAND 0, 7 " + at, x.put(3, i, j, Due.bits(1)), i <= j);
        Due.is("get of LOWER " + at, x.get(0, i, j), j <= i ? Due.bits(1) : 0);
      }
    }
    Due.is("put 0 at a place that LOWER has not", x.put(0, 0, 1, 0), false);
    Due.is("put 0 at a place that BAND has not", x.put(1, 2, 0, 0), false);
  }

  private static void promise4Sparse() {
    SystemLab x = new SystemLab();
    x.matrix(3, 8, 8, 0, 0);
    for (int k = 0; k < 20; k++) {
      Due.is("SPARSE number " + k, x.put(0, k / 8, k % 8, Due.bits(k + 1)), true);
    }
    Due.is("the 21st", x.put(0, 7, 7, Due.bits(1)), false);
    Due.is("the 21st, the least", x.put(0, 7, 7, 1), false);
    Due.is("a 0 beside 20", x.put(0, 7, 7, 0), true);
    Due.is("a -0 beside 20", x.put(0, 7, 7, Due.bits(-0.0)), true);
    Due.is("another number at the place of one", x.put(0, 0, 0, Due.bits(9)), true);
    Due.is("not finite beside 20", x.put(0, 0, 0, INFINITE), false);
    Due.isNumber("that number", x.get(0, 0, 0), 9);
    Due.is("20 of them", x.shape(0, 5), 20);
    Due.is("one of them 0", x.put(0, 1, 1, Due.bits(-0.0)), true);
    Due.is("room for one", x.put(0, 7, 7, Due.bits(1)), true);
    Due.is("and no more", x.put(0, 1, 1, Due.bits(1)), false);
  }

  private static void promise5Get() {
    SystemLab x = new SystemLab();
    x.matrix(1, 3, 3, 0, 0);
    x.matrix(0, 2, 3, 0, 0);
    x.put(0, 2, 1, Due.bits(7));
    Due.isNumber("get", x.get(0, 2, 1), 7);
    Due.is("get of a place that the FORM has not", x.get(0, 1, 2), 0);
    Due.is("get of the last place", x.get(1, 1, 2), 0);
    int[][] none = {{0, 3, 0}, {0, 0, 3}, {0, -1, 0}, {0, 0, -1}, {2, 0, 0}, {-1, 0, 0}, {24, 0, 0}, {1, 2, 0},
      {1, 0, 3}, {0, Integer.MAX_VALUE, Integer.MIN_VALUE}};
    for (int[] p : none) {
      Due.is("get " + p[0] + ", " + p[1] + ", " + p[2], x.get(p[0], p[1], p[2]), -1);
    }
  }

  private static void promise6Shape() {
    SystemLab x = new SystemLab();
    x.matrix(2, 5, 5, 3, 2);
    x.matrix(0, 2, 3, 0, 0);
    int[] empty = {2, 5, 5, 3, 2, 0, 1, 0, -1};
    for (int k = 0; k < empty.length; k++) {
      Due.is("shape(0, " + k + ")", x.shape(0, k), empty[k]);
    }
    x.put(0, 3, 3, Due.bits(1));
    Due.is("WIDTH of a diagonal", x.shape(0, 7), 0);
    x.put(0, 1, 3, Due.bits(1));
    Due.is("WIDTH above the diagonal", x.shape(0, 7), 2);
    x.put(0, 4, 1, Due.bits(-1));
    Due.is("WIDTH below it", x.shape(0, 7), 3);
    Due.is("numbers that are not 0", x.shape(0, 5), 3);
    x.put(0, 4, 1, 0);
    Due.is("WIDTH without it", x.shape(0, 7), 2);
    Due.is("WIDTH, not square", x.shape(1, 7), -1);
    Due.is("shape, what -1", x.shape(0, -1), -1);
    Due.is("shape, what 8", x.shape(0, 8), -1);
    Due.is("shape of none", x.shape(2, 0), -1);
    Due.is("shape of -1", x.shape(-1, 5), -1);
    Due.is("shape of 24", x.shape(24, 6), -1);
  }

  private static void promise6Lattice() {
    SystemLab x = new SystemLab();
    x.matrix(0, 2, 3, 0, 0);
    double[] on = {0, 0x1p40, -0x1p40, 0x1p-60, -0x1p-60, 0x1.8p-59, 0x1p39 + 0x1p-13, 1.0 / 3, 0x1.fffffffffffffp39,
      0x1.fffffffffffffp-8, 1.0 / 513, 0x1.0000000000001p-8};
    double[] off = {Math.nextUp(0x1p40), -Math.nextUp(0x1p40), 0x1p41, 0x1p-61, 0x1.8p-60, 0x1.0000000000001p-9, MIN,
      MAX, Double.MIN_NORMAL, 0x1.0000000000001p-1022, 0x1p-1000};
    for (double d : on) {
      x.put(0, 1, 2, Due.bits(d));
      Due.is(d + " is on the LATTICE", x.shape(0, 6), 1);
    }
    for (double d : off) {
      x.put(0, 1, 2, Due.bits(d));
      Due.is(d + " is not on the LATTICE", x.shape(0, 6), 0);
    }
  }

  private static void promise7Sum() {
    SystemLab x = new SystemLab();
    int a = Due.full(x, new double[][] {{1, -2, 0x1p53}, {0.1, MAX, -5}});
    int b = Due.full(x, new double[][] {{0x1p-53, 2, 1}, {0.2, -MAX, 5}});
    Due.is("sum", x.sum(a, b), 2);
    Due.matrixIs("sum", x, 2, new double[][] {{1, 0, 0x1p53}, {0.1 + 0.2, 0, 0}});
    Due.is("sum is FULL", x.shape(2, 0), 0);
    Due.is("sum with itself overflows", x.sum(a, a), -1);
    Due.is("refused: nothing is made", x.count(0), 3);
    int l = x.matrix(1, 2, 2, 0, 0);
    x.put(l, 1, 0, Due.bits(3));
    Due.is("sum of LOWER with itself", x.sum(l, l), 4);
    Due.matrixIs("sum of LOWER", x, 4, new double[][] {{0, 0}, {6, 0}});
    Due.is("sum of LOWER is FULL", x.shape(4, 0), 0);
    Due.is("sum, other rows", x.sum(a, l), -1);
    int t = x.transpose(a);
    Due.is("sum, other columns", x.sum(a, t), -1);
    Due.is("sum, none", x.sum(a, 9), -1);
    Due.is("sum, -1", x.sum(-1, a), -1);
    Due.is("sum, 24", x.sum(24, 24), -1);
    int h = Due.full(x, new double[][] {{MAX}});
    int half = Due.full(x, new double[][] {{0x1p969}});
    Due.is("just below the step to infinity", x.sum(h, half) >= 0, true);
    x.put(half, 0, 0, Due.bits(0x1p970));
    Due.is("half a step above the greatest", x.sum(h, half), -1);
  }

  private static void promise8Product() {
    SystemLab x = new SystemLab();
    int a = Due.full(x, new double[][] {{1, 2, 3}, {4, 5, 6}});
    int b = Due.full(x, new double[][] {{7, 8}, {9, 10}, {11, 12}});
    Due.is("product", x.product(a, b, false), 2);
    Due.matrixIs("product", x, 2, new double[][] {{58, 64}, {139, 154}});
    Due.is("product, turned", x.product(b, a, true), 3);
    Due.matrixIs("product, turned", x, 3, new double[][] {{39, 54, 69}, {49, 68, 87}, {59, 82, 105}});
    Due.is("product is FULL", x.shape(3, 0), 0);
    Due.is("product that does not fit", x.product(a, a, false), -1);
    Due.is("product, none", x.product(a, 20, true), -1);
    Due.is("product, -1", x.product(-1, a, true), -1);
    double e = 1 + 0x1p-30;
    int p = Due.full(x, new double[][] {{1, e}});
    int q = Due.full(x, new double[][] {{-1}, {e}});
    Due.isNumber("not fused", x.get(x.product(p, q, false), 0, 0), 0x1p-29);
    Due.isNumber("fused", x.get(x.product(p, q, true), 0, 0), 0x1p-29 + 0x1p-60);
    int in = Due.full(x, new double[][] {{0x1p53, 1, -0x1p53}});
    int ones = Due.full(x, new double[][] {{1}, {1}, {1}});
    Due.isNumber("from 0 on", x.get(x.product(in, ones, false), 0, 0), 0);
    Due.isNumber("from 0 on, fused", x.get(x.product(in, ones, true), 0, 0), 0);
    int low = x.matrix(1, 2, 2, 0, 0);
    x.put(low, 0, 0, Due.bits(2));
    x.put(low, 1, 0, Due.bits(3));
    x.put(low, 1, 1, Due.bits(4));
    Due.matrixIs("square of LOWER", x, x.product(low, low, false), new double[][] {{4, 0}, {18, 16}});
  }

  private static void promise8OnTheWay() {
    SystemLab x = new SystemLab();
    int a = Due.full(x, new double[][] {{MAX, MAX}});
    int b = Due.full(x, new double[][] {{2}, {-2}});
    Due.is("infinite on the way", x.product(a, b, false), -1);
    Due.is("infinite on the way, fused", x.product(a, b, true), -1);
    int c = Due.full(x, new double[][] {{1}, {1}});
    Due.is("infinite at the end", x.product(a, c, false), -1);
    int d = Due.full(x, new double[][] {{-1}, {2}});
    Due.is("a product alone is infinite", x.product(a, d, false), -1);
    Due.isNumber("fused it is not", x.get(x.product(a, d, true), 0, 0), MAX);
    int e = Due.full(x, new double[][] {{-MIN}});
    int f = Due.full(x, new double[][] {{MIN}});
    Due.isNumber("-0 becomes 0", x.get(x.product(e, f, true), 0, 0), 0);
    Due.isNumber("-0 becomes 0, not fused", x.get(x.product(e, f, false), 0, 0), 0);
    int g = Due.full(x, new double[][] {{0x1p-537}});
    int h = Due.full(x, new double[][] {{0x1.8p-538}});
    Due.isNumber("a subnormal product, up to the nearest", x.get(x.product(g, h, false), 0, 0), MIN);
    Due.isNumber("a tie, to the even", x.get(x.product(g, Due.full(x, new double[][] {{0x1p-538}}), true), 0, 0), 0);
  }

  private static void promise9Transpose() {
    SystemLab x = new SystemLab();
    int a = Due.full(x, new double[][] {{1, 2, 3}, {4, 5, 6}});
    Due.is("transpose", x.transpose(a), 1);
    Due.matrixIs("transpose", x, 1, new double[][] {{1, 4}, {2, 5}, {3, 6}});
    x.put(a, 0, 0, Due.bits(9));
    Due.isNumber("it stands by itself", x.get(1, 0, 0), 1);
    int low = x.matrix(1, 2, 2, 0, 0);
    x.put(low, 1, 0, Due.bits(7));
    int t = x.transpose(low);
    Due.matrixIs("transpose of LOWER", x, t, new double[][] {{0, 7}, {0, 0}});
    Due.is("it is FULL", x.shape(t, 0), 0);
    Due.is("transpose, none", x.transpose(4), -1);
    Due.is("transpose, -1", x.transpose(-1), -1);
  }

  private static void promise10Formed() {
    SystemLab x = new SystemLab();
    int a = Due.full(x, new double[][] {{1, 0, 0}, {2, 3, 0}, {4, 0, 5}});
    double[][] same = {{1, 0, 0}, {2, 3, 0}, {4, 0, 5}};
    Due.is("formed LOWER", x.formed(a, 1, 0, 0), 1);
    Due.matrixIs("formed LOWER", x, 1, same);
    Due.is("its FORM", x.shape(1, 0), 1);
    Due.is("formed BAND 2, 0", x.formed(a, 2, 2, 0), 2);
    Due.matrixIs("formed BAND", x, 2, same);
    Due.is("its a", x.shape(2, 3), 2);
    Due.is("a number has no place in BAND 1, 1", x.formed(a, 2, 1, 1), -1);
    Due.is("formed SPARSE", x.formed(1, 3, 0, 0), 3);
    Due.is("formed BLOCKS", x.formed(a, 4, 3, 1), 4);
    Due.is("its b", x.shape(4, 4), 1);
    Due.is("BLOCKS that do not divide", x.formed(a, 4, 2, 1), -1);
    Due.is("formed FULL with an a", x.formed(a, 0, 1, 0), -1);
    Due.is("formed FULL of LOWER", x.formed(1, 0, 0, 0), 5);
    Due.is("same numbers", x.same(5, a), 1);
    Due.is("formed 5", x.formed(a, 5, 0, 0), -1);
    Due.is("formed -1", x.formed(a, -1, 0, 0), -1);
    Due.is("formed of none", x.formed(9, 0, 0, 0), -1);
    Due.is("formed of -1", x.formed(-1, 0, 0, 0), -1);
    x.put(a, 0, 1, Due.bits(MIN));
    Due.is("a number has no place in LOWER", x.formed(a, 1, 0, 0), -1);
    int wide = Due.full(x, new double[][] {{1, 2}});
    Due.is("LOWER of 1 row, 2 columns", x.formed(wide, 1, 0, 0), -1);
    Due.is("BAND of 1 row, 2 columns", x.formed(wide, 2, 7, 7), -1);
    Due.is("refused: nothing is made", x.count(0), 7);
  }

  private static void promise10Sparse() {
    SystemLab x = new SystemLab();
    x.matrix(0, 3, 7, 0, 0);
    for (int k = 0; k < 20; k++) {
      x.put(0, k / 7, k % 7, Due.bits(1));
    }
    Due.is("SPARSE of 20", x.formed(0, 3, 0, 0), 1);
    x.put(0, 2, 6, Due.bits(1));
    Due.is("SPARSE of 21", x.formed(0, 3, 0, 0), -1);
    Due.is("count", x.count(0), 2);
  }

  private static void promise11Block() {
    SystemLab x = new SystemLab();
    int a = Due.full(x, new double[][] {{1, 2, 3}, {4, 5, 6}});
    Due.is("block", x.block(a, 0, 1, 2, 2), 1);
    Due.matrixIs("block", x, 1, new double[][] {{2, 3}, {5, 6}});
    Due.is("block, the last place", x.block(a, 1, 2, 1, 1), 2);
    Due.matrixIs("block, the last place", x, 2, new double[][] {{6}});
    Due.is("block, all", x.block(a, 0, 0, 2, 3), 3);
    Due.is("all the same", x.same(3, a), 1);
    int[][] none = {{1, 0, 2, 1}, {0, 2, 1, 2}, {0, 0, 3, 1}, {0, 0, 1, 4}, {-1, 0, 1, 1}, {0, -1, 1, 1}, {0, 0, 0, 1},
      {0, 0, 1, 0}, {0, 0, -1, -1}, {1, 1, Integer.MAX_VALUE, 1}, {1, 1, 1, Integer.MAX_VALUE}, {2, 0, 1, 1},
      {0, 3, 1, 1}, {Integer.MAX_VALUE, 0, 1, 1}};
    for (int[] p : none) {
      Due.is("block from " + p[0] + ", " + p[1] + " of " + p[2] + ", " + p[3], x.block(a, p[0], p[1], p[2], p[3]), -1);
    }
    Due.is("block of none", x.block(5, 0, 0, 1, 1), -1);
    Due.is("block of -1", x.block(-1, 0, 0, 1, 1), -1);
    int low = x.matrix(1, 3, 3, 0, 0);
    x.put(low, 1, 1, Due.bits(8));
    int b = x.block(low, 0, 1, 2, 2);
    Due.matrixIs("block of LOWER", x, b, new double[][] {{0, 0}, {8, 0}});
    Due.is("it is FULL", x.shape(b, 0), 0);
  }

  private static void promise12Same() {
    SystemLab x = new SystemLab();
    int a = Due.full(x, new double[][] {{1, 0}, {2, 3}});
    int b = x.formed(a, 1, 0, 0);
    Due.is("same numbers, another FORM", x.same(a, b), 1);
    Due.is("same as itself", x.same(a, a), 1);
    x.put(b, 1, 1, Due.bits(Math.nextUp(3.0)));
    Due.is("another number", x.same(a, b), 0);
    int c = Due.full(x, new double[][] {{1, 0}});
    int d = Due.full(x, new double[][] {{1}, {0}});
    Due.is("other rows", x.same(a, c), 0);
    Due.is("rows for columns", x.same(c, d), 0);
    Due.is("same, none", x.same(a, 7), -1);
    Due.is("same, none first", x.same(7, a), -1);
    Due.is("same, -1", x.same(-1, -1), -1);
    Due.is("same, 24", x.same(24, a), -1);
  }

  private static void noRoomForMore() {
    SystemLab x = new SystemLab();
    int a = Due.full(x, new double[][] {{2}});
    int f = x.factor(a, 0, false);
    for (int k = 1; k < 24; k++) {
      x.matrix(0, 1, 1, 0, 0);
    }
    Due.is("sum beside 24", x.sum(a, a), -1);
    Due.is("product beside 24", x.product(a, a, true), -1);
    Due.is("transpose beside 24", x.transpose(a), -1);
    Due.is("formed beside 24", x.formed(a, 3, 0, 0), -1);
    Due.is("block beside 24", x.block(a, 0, 0, 1, 1), -1);
    Due.is("inverse beside 24", x.inverse(f), -1);
    Due.is("reorder beside 24", x.reorder(a), -1);
    Due.is("place after it", x.place(0), -1);
    x.pack(a);
    x.take();
    Due.is("unpack beside 24", x.unpack(), -1);
    Due.is("same beside 24", x.same(a, a), 1);
    x.drop(17);
    Due.is("sum into the room that is free", x.sum(a, a), 17);
    Due.is("count", x.count(0), 24);
  }
}
