import java.util.ArrayList;
import java.util.List;

/**
 * A call that is refused changes nothing but what is told: each call that can be refused is made on
 * one of two objects that are alike, and all that they answer then must be alike too.
 */
public final class RefusedTest {
  private static final String WORDS = "A call that is refused changes nothing but what is told";
  private static final double MAX = Double.MAX_VALUE;
  private static final double MIN = Double.MIN_VALUE;
  private static final long ONE = Due.bits(1);
  private static final long INFINITE = Due.bits(Double.POSITIVE_INFINITY);

  // what stands in each object
  private static final int SQUARE = 0;
  private static final int LOWER = 1;
  private static final int SPARSE = 2;
  private static final int BAND = 3;
  private static final int LARGE = 4;
  private static final int WIDE = 5;
  private static final int SINGULAR = 6;
  private static final int OFF_LATTICE = 7;
  private static final int TURNED = 8;
  private static final int NO_MATRIX = 9;
  private static final int BY_ROWS = 0;
  private static final int NO_INVERSE = 1;
  private static final int OF_ONE = 2;
  private static final int NO_FACTOR = 3;
  private static final int TWO = 0;
  private static final int THREE = 1;
  private static final int FAR = 2;
  private static final int OTHER = 3;
  private static final int NO_VECTOR = 4;

  /** A call that may be refused. */
  private interface Call {
    long on(SystemLab x);
  }

  /** What is filled up beside what stands in each object. */
  private enum Full { NOTHING, MATRICES, FACTORS, VECTORS, TAPE }

  public static void main(String[] args) {
    Due.runAll(RefusedTest.class);
  }

  private static SystemLab object(Full full) {
    SystemLab x = new SystemLab();
    Due.full(x, new double[][] {{2, 1}, {4, 5}});
    Due.fill(x, x.matrix(1, 2, 2, 0, 0), new double[][] {{1, 0}, {3, 4}});
    x.matrix(3, 3, 7, 0, 0);
    for (int k = 0; k < 20; k++) {
      x.put(SPARSE, k / 7, k % 7, Due.bits(k + 1));
    }
    Due.fill(x, x.matrix(2, 2, 2, 0, 1), new double[][] {{1, 2}, {0, 3}});
    Due.full(x, new double[][] {{MAX, MAX}, {MAX, MAX}});
    Due.full(x, new double[][] {{1, 2, 3}, {4, 5, 6}});
    Due.full(x, new double[][] {{1, 2}, {2, 4}});
    Due.full(x, new double[][] {{1, 0}, {0, MIN}});
    x.reorder(SQUARE);
    x.factor(SQUARE, 1, false);
    x.factor(OFF_LATTICE, 0, true);
    x.factor(Due.one(x, 9), 3, false);
    x.drop(NO_MATRIX);
    Due.row(x, 1, 2);
    Due.row(x, 3, 4, 5);
    Due.row(x, MAX, MAX);
    Due.row(x, -7, 0.5);
    x.pack(LOWER);
    x.take();
    fill(x, full);
    return x;
  }

  private static void fill(SystemLab x, Full full) {
    if (full == Full.MATRICES) {
      Due.crowdMatrices(x);
    }
    if (full == Full.VECTORS) {
      Due.crowdVectors(x);
    }
    for (int k = x.count(1); full == Full.FACTORS && k < 12; k++) {
      x.factor(SQUARE, 0, false);
    }
    while (full == Full.TAPE && x.count(3) <= 580) {
      x.feed(1, 2, 3, 4, 5);
    }
  }

  private static void seeMatrix(SystemLab x, int m, List<Long> seen) {
    int[] shape = new int[5];
    for (int what = 0; what < 5; what++) {
      shape[what] = x.shape(m, what);
      seen.add((long) shape[what]);
      if (shape[what] < 0) {
        return;
      }
    }
    for (int k = 0; k < shape[1] * shape[2]; k++) {
      seen.add(x.get(m, k / shape[2], k % shape[2]));
    }
  }

  private static void seeFactor(SystemLab x, int f, List<Long> seen) {
    seen.add(x.growth(f));
    for (int k = 0; k < 2 && seen.get(seen.size() - 1) != -1; k++) {
      seen.add(x.pivots(f, k));
      seen.add((long) x.order(f, 0, k));
      seen.add((long) x.order(f, 1, k));
      seen.add(x.part(f, k, 0));
      seen.add(x.part(f, k, 1));
    }
  }

  /** All that an object answers, and what it makes next. */
  private static List<Long> seen(SystemLab x, Full full) {
    List<Long> seen = new ArrayList<>();
    for (int what = 0; what < 4; what++) {
      seen.add((long) x.count(what));
    }
    for (int m = 0; m < 24; m++) {
      if (m <= NO_MATRIX || full == Full.MATRICES) {
        seeMatrix(x, m, seen);
      }
    }
    for (int f = 0; f < 12; f++) {
      seeFactor(x, f, seen);
    }
    for (int v = 0; v <= NO_VECTOR; v++) {
      for (int i = 0; i < 4; i++) {
        seen.add(x.value(v, i));
      }
    }
    for (int i = 0; i < 34; i++) {
      seen.add((long) x.octet(i));
    }
    for (int k = 0; k < 3; k++) {
      seen.add((long) x.place(k));
    }
    x.drop(23);
    x.end(Math.min(x.count(3), 32));
    int unpacked = x.unpack();
    seen.add((long) unpacked);
    seeMatrix(x, unpacked, seen);
    x.drop(0);
    seeMatrix(x, x.matrix(0, 2, 2, 0, 0), seen);
    int v = x.vector(2);
    seen.add((long) v);
    seen.add(x.value(v, 0));
    seen.add(x.value(v, 1));
    seen.add((long) x.factor(LOWER, 0, false));
    return seen;
  }

  private static void refused(String call, Full full, long due, Call c) {
    Due.says(WORDS);
    SystemLab x = object(full);
    Due.is(call, c.on(x), due);
    List<Long> with = seen(x, full);
    List<Long> without = seen(object(full), full);
    int at = 0;
    while (at < with.size() && at < without.size() && with.get(at).equals(without.get(at))) {
      at++;
    }
    Due.is(call + ": answers alike", at, without.size());
    Due.is(call + ": as many", with.size(), without.size());
  }

  private static void refused(String call, Call c) {
    refused(call, Full.NOTHING, -1, c);
  }

  private static long truth(boolean b) {
    return b ? 1 : 0;
  }

  private static void promise2_matrix() {
    refused("beside 24", Full.MATRICES, -1, x -> x.matrix(0, 2, 2, 0, 0));
    refused("none such", x -> x.matrix(1, 2, 3, 0, 0));
  }

  private static void promise3_drop() {
    refused("none such", Full.NOTHING, 0, x -> truth(x.drop(NO_MATRIX)));
    refused("-1", Full.NOTHING, 0, x -> truth(x.drop(-1)));
  }

  private static void promise4_put() {
    refused("no matrix", Full.NOTHING, 0, x -> truth(x.put(NO_MATRIX, 0, 0, ONE)));
    refused("no place", Full.NOTHING, 0, x -> truth(x.put(LOWER, 0, 1, ONE)));
    refused("no row", Full.NOTHING, 0, x -> truth(x.put(SQUARE, 2, 0, ONE)));
    refused("no column", Full.NOTHING, 0, x -> truth(x.put(SQUARE, 0, 2, ONE)));
    refused("not finite", Full.NOTHING, 0, x -> truth(x.put(SQUARE, 0, 0, INFINITE)));
    refused("the 21st", Full.NOTHING, 0, x -> truth(x.put(SPARSE, 2, 6, ONE)));
  }

  private static void promise5_get() {
    refused("no matrix", x -> x.get(NO_MATRIX, 0, 0));
    refused("no row", x -> x.get(SQUARE, 2, 0));
    refused("no column", x -> x.get(SQUARE, 0, 2));
  }

  private static void promise6_shape() {
    refused("no matrix", x -> x.shape(NO_MATRIX, 5));
    refused("another what", x -> x.shape(SQUARE, 8));
    refused("WIDTH of one that is not square", x -> x.shape(WIDE, 7));
  }

  private static void promise7_sum() {
    refused("not there", x -> x.sum(SQUARE, NO_MATRIX));
    refused("other columns", x -> x.sum(SQUARE, WIDE));
    refused("not finite", x -> x.sum(LARGE, LARGE));
    refused("beside 24", Full.MATRICES, -1, x -> x.sum(SQUARE, SQUARE));
  }

  private static void promise8_product() {
    refused("not there", x -> x.product(NO_MATRIX, SQUARE, false));
    refused("not as many", x -> x.product(WIDE, SQUARE, false));
    refused("not finite", x -> x.product(SQUARE, LARGE, true));
    refused("not finite at the last", x -> x.product(LOWER, LARGE, false));
    refused("beside 24", Full.MATRICES, -1, x -> x.product(SQUARE, SQUARE, false));
  }

  private static void promise9_transpose() {
    refused("not there", x -> x.transpose(NO_MATRIX));
    refused("beside 24", Full.MATRICES, -1, x -> x.transpose(SQUARE));
  }

  private static void promise10_formed() {
    refused("not there", x -> x.formed(NO_MATRIX, 0, 0, 0));
    refused("no such FORM", x -> x.formed(WIDE, 1, 0, 0));
    refused("no place", x -> x.formed(SQUARE, 1, 0, 0));
    refused("no place in the last row", x -> x.formed(SQUARE, 2, 0, 1));
    refused("beside 24", Full.MATRICES, -1, x -> x.formed(SQUARE, 0, 0, 0));
  }

  private static void promise11_block() {
    refused("not there", x -> x.block(NO_MATRIX, 0, 0, 1, 1));
    refused("some are not there", x -> x.block(SQUARE, 1, 0, 2, 1));
    refused("beside 24", Full.MATRICES, -1, x -> x.block(SQUARE, 0, 0, 1, 1));
  }

  private static void promise12_same() {
    refused("not there", x -> x.same(SQUARE, NO_MATRIX));
  }

  private static void promise13_factor() {
    refused("no matrix", x -> x.factor(NO_MATRIX, 0, false));
    refused("no METHOD", x -> x.factor(SQUARE, 4, false));
    refused("not square", x -> x.factor(WIDE, 0, false));
    refused("there are 12", Full.FACTORS, -1, x -> x.factor(SQUARE, 1, false));
  }

  private static void promise13_factorThatFails() {
    refused("plain", Full.NOTHING, -3, x -> x.factor(SINGULAR, 0, false));
    refused("by rows", Full.NOTHING, -3, x -> x.factor(SINGULAR, 1, true));
    refused("by rows and columns", Full.NOTHING, -3, x -> x.factor(SINGULAR, 2, false));
    refused("by roots", Full.NOTHING, -3, x -> x.factor(SINGULAR, 3, false));
    refused("not finite", Full.NOTHING, -4, x -> {
      int m = Due.full(x, new double[][] {{1, 0, 0}, {0, 1, MAX}, {0, -2, MAX}});
      int k = x.factor(m, 0, false) - 1;
      x.drop(m);
      return k;
    });
  }

  private static void promise14_release() {
    refused("none such", Full.NOTHING, 0, x -> truth(x.release(NO_FACTOR)));
    refused("12", Full.NOTHING, 0, x -> truth(x.release(12)));
  }

  private static void promise15_part() {
    refused("no factor", x -> x.part(NO_FACTOR, 0, 0));
    refused("no place", x -> x.part(BY_ROWS, 0, 2));
  }

  private static void promise16_order() {
    refused("no factor", x -> x.order(NO_FACTOR, 0, 0));
    refused("no axis", x -> x.order(BY_ROWS, 2, 0));
    refused("no k", x -> x.order(BY_ROWS, 0, 2));
  }

  private static void promise17_growth() {
    refused("no factor", x -> x.growth(NO_FACTOR));
  }

  private static void promise18_pivots() {
    refused("no factor", x -> x.pivots(NO_FACTOR, 0));
    refused("another what", x -> x.pivots(BY_ROWS, 2));
  }

  private static void promise19_vector() {
    refused("of 9", x -> x.vector(9));
    refused("of 0", x -> x.vector(0));
    refused("beside 24", Full.VECTORS, -1, x -> x.vector(2));
  }

  private static void promise20_forget() {
    refused("none such", Full.NOTHING, 0, x -> truth(x.forget(NO_VECTOR)));
    refused("24", Full.NOTHING, 0, x -> truth(x.forget(24)));
  }

  private static void promise21_set() {
    refused("no vector", Full.NOTHING, 0, x -> truth(x.set(NO_VECTOR, 0, ONE)));
    refused("no number", Full.NOTHING, 0, x -> truth(x.set(TWO, 2, ONE)));
    refused("not finite", Full.NOTHING, 0, x -> truth(x.set(TWO, 0, INFINITE)));
  }

  private static void promise22_value() {
    refused("no vector", x -> x.value(NO_VECTOR, 0));
    refused("no number", x -> x.value(TWO, 2));
  }

  private static void promise23_size() {
    refused("no vector", x -> x.size(NO_VECTOR));
  }

  private static void promise24_solve() {
    refused("no factor", x -> x.solve(NO_FACTOR, TWO));
    refused("no vector", x -> x.solve(BY_ROWS, NO_VECTOR));
    refused("not n", x -> x.solve(BY_ROWS, THREE));
    refused("no solution", x -> x.solve(NO_INVERSE, FAR));
    refused("beside 24", Full.VECTORS, -1, x -> x.solve(BY_ROWS, TWO));
  }

  private static void promise25_residual() {
    refused("no matrix", x -> x.residual(NO_MATRIX, TWO, OTHER, 0));
    refused("they do not fit", x -> x.residual(WIDE, TWO, THREE, 0));
    refused("no i", x -> x.residual(SQUARE, TWO, OTHER, 2));
    refused("not finite", x -> x.residual(SQUARE, FAR, TWO, 0));
  }

  private static void promise26_greatest() {
    refused("no vector", x -> x.greatest(SQUARE, TWO, NO_VECTOR));
    refused("they do not fit", x -> x.greatest(SQUARE, TWO, THREE));
    refused("not finite", x -> x.greatest(SQUARE, FAR, TWO));
  }

  private static void promise27_refine() {
    refused("no matrix", x -> x.refine(NO_MATRIX, BY_ROWS, TWO, OTHER, 5));
    refused("no factor", x -> x.refine(SQUARE, NO_FACTOR, TWO, OTHER, 5));
    refused("no s", x -> x.refine(SQUARE, BY_ROWS, NO_VECTOR, OTHER, 5));
    refused("no r", x -> x.refine(SQUARE, BY_ROWS, TWO, NO_VECTOR, 5));
    refused("s does not fit", x -> x.refine(SQUARE, BY_ROWS, THREE, OTHER, 5));
    refused("r does not fit", x -> x.refine(SQUARE, BY_ROWS, TWO, THREE, 5));
    refused("the factor does not fit", x -> x.refine(SQUARE, OF_ONE, TWO, OTHER, 5));
    refused("the matrix does not fit", x -> x.refine(WIDE, BY_ROWS, THREE, TWO, 5));
    refused("rounds 0", x -> x.refine(SQUARE, BY_ROWS, TWO, OTHER, 0));
    refused("rounds 21", x -> x.refine(SQUARE, BY_ROWS, TWO, OTHER, 21));
  }

  private static void promise27_refineThatCountsNoRound() {
    refused("not finite", Full.NOTHING, 0, x -> x.refine(SQUARE, BY_ROWS, FAR, TWO, 5));
    refused("not less", Full.NOTHING, 0, x -> x.refine(LARGE, NO_INVERSE, TWO, TWO, 5));
  }

  private static void promise28_inverse() {
    refused("no factor", x -> x.inverse(NO_FACTOR));
    refused("no solution", x -> x.inverse(NO_INVERSE));
    refused("beside 24", Full.MATRICES, -1, x -> x.inverse(BY_ROWS));
  }

  private static void promise29_exactly() {
    refused("no matrix", x -> x.exactly(NO_MATRIX, TWO));
    refused("no vector", x -> x.exactly(SQUARE, NO_VECTOR));
    refused("they do not fit", x -> x.exactly(WIDE, THREE));
    refused("not on the LATTICE", x -> x.exactly(OFF_LATTICE, TWO));
    refused("r is not on the LATTICE", x -> x.exactly(SQUARE, FAR));
    refused("one, and 24", Full.VECTORS, -1, x -> x.exactly(SQUARE, TWO));
  }

  private static void promise29_exactlyThatMakesNoVector() {
    refused("none", Full.NOTHING, 0, x -> x.exactly(SINGULAR, OTHER));
    refused("many", Full.NOTHING, 1, x -> x.exactly(SINGULAR, TWO));
  }

  private static void promise30_rank() {
    refused("no matrix", x -> x.rank(NO_MATRIX));
    refused("not on the LATTICE", x -> x.rank(OFF_LATTICE));
  }

  private static void promise31_nullVector() {
    refused("no matrix", x -> x.nullVector(NO_MATRIX, 0));
    refused("not on the LATTICE", x -> x.nullVector(OFF_LATTICE, 0));
    refused("no k", x -> x.nullVector(SINGULAR, 1));
    refused("beside 24", Full.VECTORS, -1, x -> x.nullVector(SINGULAR, 0));
  }

  private static void promise32_determinant() {
    refused("no matrix", x -> x.determinant(NO_MATRIX));
    refused("not square", x -> x.determinant(WIDE));
    refused("not on the LATTICE", x -> x.determinant(OFF_LATTICE));
  }

  private static void promise33_digits() {
    refused("no matrix", Full.NOTHING, 0, x -> x.digits(NO_MATRIX, 0));
    refused("no k", Full.NOTHING, 0, x -> x.digits(SQUARE, 28));
  }

  private static void promise34_condition() {
    refused("no matrix", x -> x.condition(NO_MATRIX));
    refused("no inverse", x -> x.condition(SINGULAR));
  }

  private static void promise35_gap() {
    refused("no matrix", x -> x.gap(NO_MATRIX, SQUARE));
    refused("not of the same n", x -> x.gap(WIDE, SQUARE));
    refused("not on the LATTICE", x -> x.gap(SQUARE, OFF_LATTICE));
    refused("not finite", x -> x.gap(LARGE, SQUARE));
  }

  private static void promise36_bound() {
    refused("no matrix", x -> x.bound(SQUARE, NO_MATRIX, TWO, OTHER));
    refused("they do not fit", x -> x.bound(SQUARE, SQUARE, TWO, THREE));
    refused("not on the LATTICE", x -> x.bound(SQUARE, OFF_LATTICE, TWO, OTHER));
    refused("-1.0", Full.NOTHING, Due.bits(-1), x -> x.bound(LARGE, SQUARE, TWO, OTHER));
  }

  private static void promise37_reorder() {
    refused("not there", x -> x.reorder(NO_MATRIX));
    refused("not square", x -> x.reorder(WIDE));
    refused("beside 24", Full.MATRICES, -1, x -> x.reorder(BAND));
  }

  private static void promise38_place() {
    refused("no k", x -> x.place(2));
    refused("-1", x -> x.place(-1));
  }

  private static void promise39_pack() {
    refused("none such", x -> x.pack(NO_MATRIX));
    refused("-1", x -> x.pack(-1));
  }

  private static void promise40_octet() {
    refused("none such", x -> x.octet(32));
    refused("-1", x -> x.octet(-1));
  }

  private static void promise41_feed() {
    refused("more than 600", Full.TAPE, -1, x -> x.feed(77 << 24, 9, 9, 9, 9));
  }

  private static void promise42_end() {
    refused("not so many", Full.NOTHING, 0, x -> truth(x.end(33)));
    refused("below 0", Full.NOTHING, 0, x -> truth(x.end(-1)));
  }

  /** What is told is that the tape is empty then: so it is taken again, and nothing else has changed. */
  private static void promise44_unpack() {
    refused("not such a row", x -> {
      x.end(31);
      int made = x.unpack();
      x.take();
      return made;
    });
    refused("beside 24", Full.MATRICES, -1, x -> {
      int made = x.unpack();
      x.take();
      return made;
    });
  }

  private static void promise45_count() {
    refused("another what", x -> x.count(4));
    refused("-1", x -> x.count(-1));
  }

  private static void promise38_placeStandsThere() {
    Due.says(WORDS);
    SystemLab x = object(Full.NOTHING);
    Due.placesAre("TURNED is there", x, 1, 0);
    Due.is("it is there", x.same(x.reorder(SQUARE), TURNED), 1);
  }
}
