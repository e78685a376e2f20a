/** Promises 39 to 45: matrices as bytes, and counts. */
public final class BytesTest {
  public static void main(String[] args) {
    promise39Pack();
    promise39Forms();
    promise39Sparse();
    promise40Octet();
    promise41Feed();
    promise42End();
    promise43Take();
    promise44Unpack();
    promise44Emptied();
    promise44Broken();
    promise44BrokenNumbers();
    promise44BrokenSparse();
    promise45Count();
    constant();
    Due.end("BytesTest");
  }

  private static int[] bytes(SystemLab x, int m) {
    int[] row = new int[Math.max(x.pack(m), 0)];
    for (int i = 0; i < row.length; i++) {
      row[i] = x.octet(i);
    }
    return row;
  }

  private static int check(int[] row) {
    int c = 1;
    for (int i = 0; i < row.length - 2; i++) {
      c = (31 * c + row[i]) % 65521;
    }
    return c;
  }

  private static int[] checked(int... row) {
    row[row.length - 2] = check(row) >> 8;
    row[row.length - 1] = check(row) & 255;
    return row;
  }

  /** Unpacks these bytes; whatever comes of it, the tape is empty then. */
  private static int unpacked(String call, SystemLab x, int[] row) {
    Due.feed(x, row);
    Due.is(call + ": on the tape", x.count(3), row.length);
    int made = x.unpack();
    Due.is(call + ": the tape is empty then", x.count(3), 0);
    return made;
  }

  private static void bytesAre(String call, SystemLab x, int m, int... want) {
    int[] got = bytes(x, m);
    Due.is(call + " length", got.length, want.length);
    for (int i = 0; i < Math.min(got.length, want.length); i++) {
      Due.is(call + " byte " + i, got[i], want[i]);
    }
  }

  private static void promise39Pack() {
    SystemLab x = new SystemLab();
    int m = Due.full(x, new double[][] {{1, -2}});
    int c = 1;
    int[] ahead = {77, 0, 1, 2, 0, 0, 0x3F, 0xF0, 0, 0, 0, 0, 0, 0, 0xC0, 0, 0, 0, 0, 0, 0, 0};
    for (int b : ahead) {
      c = (31 * c + b) % 65521;
    }
    int[] want = java.util.Arrays.copyOf(ahead, 24);
    want[22] = c / 256;
    want[23] = c % 256;
    Due.is("pack", x.pack(m), 24);
    bytesAre("pack", x, m, want);
    Due.is("pack of none", x.pack(1), -1);
    Due.is("pack of -1", x.pack(-1), -1);
    Due.is("pack of 24", x.pack(24), -1);
    Due.is("refused: the bytes stay", x.octet(0), 77);
    x.drop(m);
    Due.is("the matrix gone: the bytes stay", x.octet(23), want[23]);
    Due.is("the largest", x.pack(x.matrix(0, 8, 8, 0, 0)), 520);
  }

  private static void promise39Forms() {
    SystemLab x = new SystemLab();
    int low = x.matrix(1, 2, 2, 0, 0);
    x.put(low, 0, 0, 0x0102030405060708L);
    x.put(low, 1, 0, 0x1112131415161718L);
    x.put(low, 1, 1, 0x2122232425262728L);
    bytesAre("LOWER", x, low, checked(77, 1, 2, 2, 0, 0, 1, 2, 3, 4, 5, 6, 7, 8, 17, 18, 19, 20, 21, 22, 23, 24,
        33, 34, 35, 36, 37, 38, 39, 40, 0, 0));
    int band = x.matrix(2, 3, 3, 0, 1);
    x.put(band, 1, 2, 0x0102030405060708L);
    int[] want = new int[6 + 40 + 2];
    int[] head = {77, 2, 3, 3, 0, 1};
    System.arraycopy(head, 0, want, 0, 6);
    for (int k = 0; k < 8; k++) {
      want[6 + 24 + k] = k + 1;
    }
    bytesAre("BAND 0, 1: at 0,0 0,1 1,1 1,2 2,2", x, band, checked(want));
    int blocks = x.matrix(4, 2, 4, 2, 4);
    x.put(blocks, 0, 1, 0x0102030405060708L);
    int[] full = new int[6 + 64 + 2];
    int[] start = {77, 4, 2, 4, 2, 4};
    System.arraycopy(start, 0, full, 0, 6);
    for (int k = 0; k < 8; k++) {
      full[6 + 8 + k] = k + 1;
    }
    bytesAre("BLOCKS, row by row", x, blocks, checked(full));
    Due.is("BAND of all places", x.pack(x.matrix(2, 3, 3, 7, 7)), 8 + 72);
  }

  private static void promise39Sparse() {
    SystemLab x = new SystemLab();
    int m = x.matrix(3, 8, 7, 0, 0);
    bytesAre("SPARSE without numbers", x, m, checked(77, 3, 8, 7, 0, 0, 0, 0, 0));
    x.put(m, 7, 0, 0x0102030405060708L);
    x.put(m, 2, 6, 0x1112131415161718L);
    x.put(m, 2, 1, 0x2122232425262728L);
    bytesAre("SPARSE, row by row", x, m, checked(77, 3, 8, 7, 0, 0, 3, 2, 1, 33, 34, 35, 36, 37, 38, 39, 40,
        2, 6, 17, 18, 19, 20, 21, 22, 23, 24, 7, 0, 1, 2, 3, 4, 5, 6, 7, 8, 0, 0));
  }

  private static void promise40Octet() {
    SystemLab x = new SystemLab();
    Due.is("octet before any pack", x.octet(0), -1);
    x.pack(x.matrix(0, 1, 1, 0, 0));
    Due.is("octet 0", x.octet(0), 77);
    Due.is("octet 15", x.octet(15) >= 0, true);
    Due.is("octet 16", x.octet(16), -1);
    Due.is("octet -1", x.octet(-1), -1);
    Due.is("octet far", x.octet(Integer.MAX_VALUE), -1);
    x.put(0, 0, 0, Due.bits(-Double.MAX_VALUE));
    Due.is("as it was packed", x.octet(7), 0);
    x.pack(0);
    Due.is("0 .. 255", x.octet(6), 255);
    Due.is("0 .. 255", x.octet(7), 239);
    x.pack(x.matrix(0, 1, 2, 0, 0));
    Due.is("of the latest", x.octet(16), 0);
    x.pack(0);
    Due.is("of the latest alone", x.octet(16), -1);
  }

  private static void promise41Feed() {
    SystemLab x = new SystemLab();
    for (int k = 1; k <= 30; k++) {
      Due.is("feed", x.feed(0, -1, k, 1 << 31, 77 << 24), 20 * k);
    }
    Due.is("more than 600", x.feed(0, 0, 0, 0, 0), -1);
    Due.is("600 of them", x.count(3), 600);
    x.end(581);
    Due.is("581 and 20", x.feed(0, 0, 0, 0, 0), -1);
    Due.is("581 stay", x.count(3), 581);
    x.end(580);
    Due.is("580 and 20", x.feed(0, 0, 0, 0, 0), 600);
    x.end(0);
    // 77 0 1 1 | 0 0 x x | x x x x | x x c c: the highest first
    int[] row = checked(77, 0, 1, 1, 0, 0, 0xBF, 0xF8, 1, 2, 3, 4, 5, 6, 0, 0);
    x.feed(0x4D000101, 0x0000BFF8, 0x01020304, 0x05060000 | row[14] << 8 | row[15], 0x55555555);
    x.end(16);
    Due.is("the highest first", x.unpack(), 0);
    Due.is("what was fed", x.get(0, 0, 0), 0xBFF8010203040506L);
  }

  private static void promise42End() {
    SystemLab x = new SystemLab();
    Due.is("end(0) of an empty tape", x.end(0), true);
    Due.is("end(1) of an empty tape", x.end(1), false);
    x.feed(1, 2, 3, 4, 5);
    Due.is("end(21)", x.end(21), false);
    Due.is("end(-1)", x.end(-1), false);
    Due.is("refused: all stay", x.count(3), 20);
    Due.is("end(20)", x.end(20), true);
    Due.is("20", x.count(3), 20);
    Due.is("end(7)", x.end(7), true);
    Due.is("7", x.count(3), 7);
    Due.is("end(8)", x.end(8), false);
    Due.is("feed behind 7", x.feed(1, 2, 3, 4, 5), 27);
  }

  private static void promise43Take() {
    SystemLab x = new SystemLab();
    x.feed(1, 2, 3, 4, 5);
    Due.is("take, nothing packed", x.take(), 0);
    Due.is("the tape has that", x.count(3), 0);
    x.feed(1, 2, 3, 4, 5);
    int m = Due.full(x, new double[][] {{3}});
    x.pack(m);
    Due.is("take", x.take(), 16);
    Due.is("the tape has that alone", x.count(3), 16);
    Due.is("take again", x.take(), 16);
    Due.is("unpack", x.unpack(), 1);
    Due.is("same", x.same(0, 1), 1);
    Due.is("the bytes stay packed", x.octet(15) >= 0, true);
    x.pack(x.matrix(0, 8, 8, 0, 0));
    Due.is("take 520", x.take(), 520);
    Due.is("feed behind them", x.feed(0, 0, 0, 0, 0), 540);
    x.end(520);
    Due.is("unpack 520", x.unpack(), 3);
  }

  private static void promise44Unpack() {
    int[][] forms = {{0, 3, 4, 0, 0}, {1, 4, 4, 0, 0}, {2, 5, 5, 1, 3}, {3, 6, 5, 0, 0}, {4, 6, 4, 3, 2}, {2, 8, 8, 7, 0}};
    for (int[] f : forms) {
      SystemLab x = new SystemLab();
      int m = x.matrix(f[0], f[1], f[2], f[3], f[4]);
      for (int i = 0; i < f[1]; i++) {
        x.put(m, i, i % f[2], Due.bits(i % 2 == 0 ? -1.0 / (i + 3) : Double.MIN_VALUE * i));
        x.put(m, i, 0, Due.bits(Double.MAX_VALUE));
      }
      int made = unpacked("FORM " + f[0], x, bytes(x, m));
      Due.is("FORM " + f[0] + " same", x.same(m, made), 1);
      for (int k = 0; k < 8; k++) {
        Due.is("FORM " + f[0] + " shape " + k, x.shape(made, k), x.shape(m, k));
      }
    }
    SystemLab x = new SystemLab();
    int[] row = bytes(x, x.matrix(0, 3, 4, 0, 0));
    x.matrix(0, 1, 1, 0, 0);
    x.matrix(0, 1, 1, 0, 0);
    x.drop(1);
    Due.is("the least number that is free", unpacked("again", x, row), 1);
  }

  private static void promise44Emptied() {
    SystemLab x = new SystemLab();
    Due.is("unpack of an empty tape", x.unpack(), -1);
    int m = Due.full(x, new double[][] {{3}});
    int[] row = bytes(x, m);
    while (x.matrix(0, 1, 1, 0, 0) >= 0) {
      Due.is("packed", x.octet(0), 77);
    }
    Due.is("unpack beside 24", unpacked("beside 24", x, row), -1);
    x.drop(5);
    Due.is("it is gone", x.unpack(), -1);
    Due.is("count", x.count(0), 23);
  }

  private static void promise44Broken() {
    SystemLab x = new SystemLab();
    int m = Due.full(x, new double[][] {{3, 1}, {4, 5}});
    int[] row = bytes(x, m);
    for (int i = 0; i < row.length; i++) {
      int[] other = row.clone();
      other[i] ^= 1;
      Due.is("byte " + i + " broken", unpacked("broken", new SystemLab(), other), -1);
    }
    for (int n = 0; n < row.length; n += n < 10 || n > 35 ? 1 : 5) {
      Due.is("cut at " + n, unpacked("cut", new SystemLab(), java.util.Arrays.copyOf(row, n)), -1);
      if (n >= 2) {
        Due.is("cut at " + n + ", the check right",
            unpacked("cut", new SystemLab(), checked(java.util.Arrays.copyOf(row, n))), -1);
      }
    }
    Due.is("a byte more", unpacked("more", x, java.util.Arrays.copyOf(row, row.length + 1)), -1);
    Due.is("8 more, the check right", unpacked("more", x, checked(java.util.Arrays.copyOf(row, row.length + 8))), -1);
    int[][] heads = {{78, 0, 2, 2, 0, 0}, {77, 5, 2, 2, 0, 0}, {77, 255, 2, 2, 0, 0}, {77, 0, 1, 4, 1, 0},
      {77, 0, 4, 1, 0, 1}, {77, 4, 2, 2, 0, 1}, {77, 4, 2, 2, 1, 3}, {77, 4, 2, 2, 255, 1}, {77, 2, 2, 2, 8, 7},
      {77, 2, 2, 2, 7, 255}, {77, 2, 4, 1, 7, 7}, {77, 0, 0, 4, 0, 0}, {77, 0, 9, 4, 0, 0}, {77, 1, 2, 2, 0, 0}};
    for (int[] h : heads) {
      int[] other = row.clone();
      System.arraycopy(h, 0, other, 0, 6);
      Due.is("head " + java.util.Arrays.toString(h), unpacked("head", x, checked(other)), -1);
    }
    int[][] good = {{77, 0, 1, 4, 0, 0}, {77, 0, 4, 1, 0, 0}, {77, 4, 2, 2, 1, 2}, {77, 2, 2, 2, 7, 1}};
    for (int k = 0; k < good.length; k++) {
      int[] other = row.clone();
      System.arraycopy(good[k], 0, other, 0, 6);
      Due.is("head " + java.util.Arrays.toString(good[k]), unpacked("head", x, checked(other)), 1 + k);
    }
  }

  private static int[] number(long bits) {
    int[] row = {77, 0, 1, 1, 0, 0, 0, 0, 0, 0, 0, 0, 0, 0, 0, 0};
    for (int k = 0; k < 8; k++) {
      row[6 + k] = (int) (bits >>> 56 - 8 * k) & 255;
    }
    return checked(row);
  }

  private static void promise44BrokenNumbers() {
    SystemLab x = new SystemLab();
    Due.is("infinity", unpacked("infinity", x, number(Due.bits(Double.POSITIVE_INFINITY))), -1);
    Due.is("-infinity", unpacked("-infinity", x, number(Due.bits(Double.NEGATIVE_INFINITY))), -1);
    Due.is("NaN", unpacked("NaN", x, number(-1L)), -1);
    Due.is("-0", unpacked("-0", x, number(Due.bits(-0.0))), -1);
    Due.is("0", unpacked("0", x, number(0)), 0);
    Due.is("the least below 0", unpacked("least", x, number(Due.bits(-Double.MIN_VALUE))), 1);
    Due.isNumber("the least below 0", x.get(1, 0, 0), -Double.MIN_VALUE);
    Due.is("the greatest", unpacked("greatest", x, number(Due.bits(Double.MAX_VALUE))), 2);
  }

  private static int[] sparse(int n, int... places) {
    int[] row = new int[7 + 5 * places.length + 2];
    int[] head = {77, 3, 4, 5, 0, 0, n};
    System.arraycopy(head, 0, row, 0, 7);
    for (int k = 0; k < places.length; k += 2) {
      row[7 + 5 * k] = places[k];
      row[8 + 5 * k] = places[k + 1];
      row[9 + 5 * k] = 0x40;
      row[16 + 5 * k] = k;
    }
    return checked(row);
  }

  private static void promise44BrokenSparse() {
    SystemLab x = new SystemLab();
    Due.is("row by row", unpacked("sparse", x, sparse(3, 0, 4, 1, 0, 3, 4)), 0);
    Due.is("its numbers", x.get(0, 3, 4), 0x4000000000000004L);
    Due.is("none", unpacked("sparse", x, sparse(0)), 1);
    Due.is("some told, none there", unpacked("sparse", x, sparse(1)), -1);
    Due.is("many told, none there", unpacked("sparse", x, sparse(200)), -1);
    Due.is("not row by row", unpacked("sparse", x, sparse(2, 1, 0, 0, 4)), -1);
    Due.is("not by columns in a row", unpacked("sparse", x, sparse(2, 1, 3, 1, 2)), -1);
    Due.is("twice the same place", unpacked("sparse", x, sparse(2, 1, 3, 1, 3)), -1);
    Due.is("no such row", unpacked("sparse", x, sparse(1, 4, 0)), -1);
    Due.is("no such column", unpacked("sparse", x, sparse(1, 3, 5)), -1);
    Due.is("no such column, though a next place", unpacked("sparse", x, sparse(2, 0, 7, 1, 0)), -1);
    Due.is("row 255", unpacked("sparse", x, sparse(1, 255, 255)), -1);
    Due.is("too many told", unpacked("sparse", x, sparse(2, 0, 0)), -1);
    Due.is("too few told", unpacked("sparse", x, sparse(1, 0, 0, 0, 1)), -1);
    int[] zero = sparse(1, 0, 0);
    zero[9] = 0;
    Due.is("a 0", unpacked("sparse", x, checked(zero)), -1);
    zero[9] = 0x80;
    Due.is("a -0", unpacked("sparse", x, checked(zero)), -1);
    zero[9] = 0x7F;
    zero[10] = 0xF0;
    Due.is("infinity", unpacked("sparse", x, checked(zero)), -1);
    int[] all = new int[40];
    for (int k = 0; k < 20; k++) {
      all[2 * k] = k / 5;
      all[2 * k + 1] = k % 5;
    }
    Due.is("20 of them", unpacked("sparse", x, sparse(20, all)), 2);
    int[] more = sparse(21, java.util.Arrays.copyOf(all, 42));
    more[2] = 8;
    more[7 + 200] = 4;
    Due.is("21 of them", unpacked("sparse", x, checked(more)), -1);
    Due.is("a wide count", unpacked("sparse", x, sparse(255, 0, 0)), -1);
  }

  private static void promise45Count() {
    SystemLab x = new SystemLab();
    int m = Due.full(x, new double[][] {{3}});
    x.matrix(1, 2, 2, 0, 0);
    x.factor(m, 0, false);
    x.vector(3);
    x.vector(3);
    x.vector(3);
    x.feed(0, 0, 0, 0, 0);
    int[] want = {2, 1, 3, 20};
    for (int k = 0; k < 4; k++) {
      Due.is("count(" + k + ")", x.count(k), want[k]);
    }
    Due.is("count(4)", x.count(4), -1);
    Due.is("count(-1)", x.count(-1), -1);
    x.drop(m);
    x.release(0);
    x.forget(1);
    x.end(3);
    for (int k = 0; k < 4; k++) {
      Due.is("count(" + k + ") after one went", x.count(k), k == 3 ? 3 : want[k] - 1);
    }
  }

  private static void constant() {
    Due.is("NONE", SystemLab.NONE, -1);
  }
}
