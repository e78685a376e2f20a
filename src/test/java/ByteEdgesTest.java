/** Term VI, and promises 39 to 45, each sentence that names an end or an edge by itself. */
public final class ByteEdgesTest {
  private static final double MAX = Double.MAX_VALUE;
  private static final double MIN = Double.MIN_VALUE;
  private static final int LEAST = Integer.MIN_VALUE;
  private static final int MOST = Integer.MAX_VALUE;

  public static void main(String[] args) {
    Due.runAll(ByteEdgesTest.class);
  }

  // ---- rows of bytes

  /** These bytes, and the two of the check behind them. */
  private static int[] checked(int... ahead) {
    int[] row = java.util.Arrays.copyOf(ahead, ahead.length + 2);
    int c = 1;
    for (int b : ahead) {
      c = (31 * c + b) % 65521;
    }
    row[ahead.length] = c / 256;
    row[ahead.length + 1] = c % 256;
    return row;
  }

  /** A head of six bytes, more bytes, then the BITS of numbers. */
  private static int[] ahead(int[] head, double... numbers) {
    int[] row = java.util.Arrays.copyOf(head, head.length + 8 * numbers.length);
    for (int k = 0; k < 8 * numbers.length; k++) {
      row[head.length + k] = (int) (Due.bits(numbers[k / 8]) >>> 56 - k % 8 * 8) & 255;
    }
    return row;
  }

  private static int[] head(int... bytes) {
    return bytes;
  }

  /** The bytes of a SPARSE matrix of 4 rows, 5 columns: places by twos, and one number at each. */
  private static int[] sparse(int count, double number, int... places) {
    int[] row = {77, 3, 4, 5, 0, 0, count};
    for (int k = 0; k < places.length; k += 2) {
      row = java.util.Arrays.copyOf(row, row.length + 2);
      row[row.length - 2] = places[k];
      row[row.length - 1] = places[k + 1];
      row = ahead(row, number);
    }
    return row;
  }

  private static void packedAre(String call, SystemLab x, int m, int[] want) {
    Due.is(call + ": how many", x.pack(m), want.length);
    for (int i = 0; i < want.length; i++) {
      Due.is(call + ": byte " + i, x.octet(i), want[i]);
    }
    Due.is(call + ": none behind", x.octet(want.length), -1);
  }

  /** Puts these bytes alone on the tape, and unpacks them. */
  private static int unpacked(SystemLab x, int[] row) {
    Due.feed(x, row);
    return x.unpack();
  }

  private static void notUnpacked(String call, int[] row) {
    SystemLab x = new SystemLab();
    Due.is(call, unpacked(x, row), -1);
    Due.is(call + ": nothing was made", x.count(0), 0);
    Due.is(call + ": the tape is empty then", x.count(3), 0);
  }

  // ---- VI: PACKED

  private static void termVI_packedHeadOfEachForm() {
    Due.says("PACKED: bytes: 77, FORM, rows, columns, a, b");
    SystemLab x = new SystemLab();
    int[][] made = {{0, 3, 7, 0, 0}, {1, 5, 5, 0, 0}, {2, 4, 4, 7, 2}, {3, 8, 1, 0, 0}, {4, 6, 8, 3, 8}};
    for (int k = 0; k < made.length; k++) {
      int[] p = made[k];
      x.pack(x.matrix(p[0], p[1], p[2], p[3], p[4]));
      Due.is("FORM " + k, x.octet(0), 77);
      for (int i = 0; i < 5; i++) {
        Due.is("FORM " + k + ", byte " + (i + 1), x.octet(i + 1), p[i]);
      }
    }
  }

  private static void termVI_packedPlacesOfTheFormRowByRow() {
    Due.says("for each place of the FORM row by row");
    SystemLab x = new SystemLab();
    int full = Due.full(x, new double[][] {{1, 2}, {3, 4}, {5, -6}});
    packedAre("FULL", x, full, checked(ahead(head(77, 0, 3, 2, 0, 0), 1, 2, 3, 4, 5, -6)));
    int low = x.formed(Due.full(x, new double[][] {{1, 0, 0}, {0, 2, 0}, {3, 4, 5}}), 1, 0, 0);
    packedAre("LOWER, its 0 too", x, low, checked(ahead(head(77, 1, 3, 3, 0, 0), 1, 0, 2, 3, 4, 5)));
    int band = x.formed(Due.full(x, new double[][] {{1, 2, 0}, {0, 3, 4}, {0, 0, 5}}), 2, 0, 1);
    packedAre("BAND", x, band, checked(ahead(head(77, 2, 3, 3, 0, 1), 1, 2, 3, 4, 5)));
    int blocks = x.formed(Due.full(x, new double[][] {{1, 2}, {3, 4}}), 4, 1, 2);
    packedAre("BLOCKS", x, blocks, checked(ahead(head(77, 4, 2, 2, 1, 2), 1, 2, 3, 4)));
  }

  private static void termVI_packedSparseNumbersThatAreNot0() {
    Due.says("(of SPARSE: how many numbers are not 0, then for each of these its row, column) the BITS");
    SystemLab x = new SystemLab();
    int m = x.matrix(3, 4, 5, 0, 0);
    packedAre("none", x, m, checked(77, 3, 4, 5, 0, 0, 0));
    for (int[] p : new int[][] {{3, 4}, {0, 1}, {3, 0}, {0, 0}}) {
      x.put(m, p[0], p[1], Due.bits(-MAX));
    }
    packedAre("four", x, m, checked(sparse(4, -MAX, 0, 0, 0, 1, 3, 0, 3, 4)));
    x.put(m, 0, 0, 0);
    packedAre("a 0 is left out", x, m, checked(sparse(3, -MAX, 0, 1, 3, 0, 3, 4)));
  }

  private static void termVI_packedBitsTheHighestFirst() {
    Due.says("the BITS, 8 bytes, the highest first");
    SystemLab x = new SystemLab();
    int m = x.matrix(0, 1, 1, 0, 0);
    x.put(m, 0, 0, 0xFFEFFEFDFCFBFAF9L);
    packedAre("bytes above 127", x, m, checked(77, 0, 1, 1, 0, 0, 255, 239, 254, 253, 252, 251, 250, 249));
  }

  private static void termVI_packedCheckIsMod65521() {
    Due.says("c, from 1 on, for each byte ahead c = (31 c + it) mod 65521, the higher byte first");
    SystemLab x = new SystemLab();
    int m = x.matrix(0, 1, 1, 0, 0);
    int[] seen = new int[2];
    for (int k = 0; k < 60; k++) {
      x.put(m, 0, 0, Due.bits(k));
      int[] want = checked(ahead(head(77, 0, 1, 1, 0, 0), k));
      Due.is("how many", x.pack(m), 16);
      Due.is("the higher of " + k, x.octet(14), want[14]);
      Due.is("the lower of " + k, x.octet(15), want[15]);
      seen[0] |= want[14];
      seen[1] |= want[15];
    }
    Due.is("the higher has bit 7 too", seen[0], 255);
    Due.is("the lower has bit 7 too", seen[1], 255);
  }

  private static void termVI_packedFewestAndMostBytes() {
    Due.says("PACKED: bytes");
    SystemLab x = new SystemLab();
    Due.is("the most of FULL", x.pack(x.matrix(0, 8, 8, 0, 0)), 520);
    Due.is("the most of BLOCKS", x.pack(x.matrix(4, 8, 8, 8, 8)), 520);
    Due.is("the most of BAND", x.pack(x.matrix(2, 8, 8, 7, 7)), 520);
    Due.is("the fewest of BAND", x.pack(x.matrix(2, 8, 8, 0, 0)), 72);
    Due.is("the most of LOWER", x.pack(x.matrix(1, 8, 8, 0, 0)), 296);
    int m = x.matrix(3, 8, 8, 0, 0);
    Due.is("the fewest of SPARSE", x.pack(m), 9);
    for (int k = 0; k < 20; k++) {
      x.put(m, k / 8, k % 8, Due.bits(1));
    }
    Due.is("the most of SPARSE", x.pack(m), 209);
    Due.is("one number", x.pack(x.matrix(0, 1, 1, 0, 0)), 16);
  }

  // ---- VI: UNPACKED

  private static void termVI_unpackedEachFormAlone() {
    Due.says("UNPACKED such a row of bytes alone is read");
    int[][] forms = {{0, 2, 3, 0, 0}, {1, 3, 3, 0, 0}, {2, 3, 3, 1, 0}, {4, 2, 4, 2, 1}};
    int[] places = {6, 6, 5, 8};
    for (int k = 0; k < forms.length; k++) {
      SystemLab x = new SystemLab();
      double[] numbers = new double[places[k]];
      for (int i = 0; i < numbers.length; i++) {
        numbers[i] = i - 2.5;
      }
      int[] f = forms[k];
      int[] row = checked(ahead(head(77, f[0], f[1], f[2], f[3], f[4]), numbers));
      Due.is("FORM " + f[0], unpacked(x, row), 0);
      for (int what = 0; what < 5; what++) {
        Due.is("FORM " + f[0] + " shape " + what, x.shape(0, what), f[what]);
      }
      packedAre("FORM " + f[0], x, 0, row);
    }
  }

  private static void termVI_unpackedNoByteLessOrMore() {
    Due.says("such a row of bytes alone is read");
    int[] all = ahead(head(77, 0, 1, 2, 0, 0), 1, 2);
    for (int n = 0; n < all.length; n++) {
      notUnpacked(n + " bytes and a check", checked(java.util.Arrays.copyOf(all, n)));
    }
    for (int n = 1; n <= 9; n++) {
      notUnpacked(n + " bytes more, the check right", checked(java.util.Arrays.copyOf(all, all.length + n)));
    }
    int[] row = checked(all);
    for (int n = 0; n < row.length; n++) {
      notUnpacked("its first " + n, java.util.Arrays.copyOf(row, n));
    }
    notUnpacked("a 0 behind it", java.util.Arrays.copyOf(row, row.length + 1));
    int[] twice = java.util.Arrays.copyOf(row, 2 * row.length);
    System.arraycopy(row, 0, twice, row.length, row.length);
    notUnpacked("twice", twice);
  }

  private static void termVI_unpackedNotWithAByteWrong() {
    Due.says("such a row of bytes alone is read");
    int[] row = checked(ahead(head(77, 0, 1, 1, 0, 0), 1));
    for (int i = 0; i < row.length; i++) {
      for (int bit = 0; bit < 8; bit++) {
        int[] other = row.clone();
        other[i] ^= 1 << bit;
        notUnpacked("byte " + i + " bit " + bit, other);
      }
    }
  }

  private static void termVI_unpackedNotWithAnotherHead() {
    Due.says("such a row of bytes alone is read");
    int[][] heads = {{76, 0, 2, 2, 0, 0}, {205, 0, 2, 2, 0, 0}, {77, 5, 2, 2, 0, 0}, {77, 255, 2, 2, 0, 0},
      {77, 0, 4, 1, 1, 0}, {77, 0, 4, 1, 0, 1}, {77, 0, 0, 4, 0, 0}, {77, 0, 4, 0, 0, 0}, {77, 4, 2, 2, 0, 1},
      {77, 4, 2, 2, 1, 0}, {77, 4, 2, 2, 3, 1}, {77, 4, 2, 2, 1, 4}, {77, 4, 2, 2, 254, 1}, {77, 2, 2, 2, 8, 1},
      {77, 2, 2, 2, 1, 8}, {77, 2, 2, 2, 255, 1}, {77, 2, 4, 1, 7, 7}, {77, 2, 1, 4, 7, 7}, {77, 0, 2, 3, 0, 0},
      {77, 0, 1, 3, 0, 0}, {77, 2, 2, 2, 1, 0}};
    for (int[] h : heads) {
      notUnpacked(java.util.Arrays.toString(h), checked(ahead(h, 1, 2, 3, 4)));
    }
    int[][] good = {{77, 0, 2, 2, 0, 0}, {77, 0, 4, 1, 0, 0}, {77, 4, 1, 4, 1, 4}, {77, 2, 2, 2, 7, 1}};
    for (int[] h : good) {
      Due.is(java.util.Arrays.toString(h), unpacked(new SystemLab(), checked(ahead(h, 1, 2, 3, 4))), 0);
    }
    notUnpacked("9 rows", checked(ahead(head(77, 0, 9, 1, 0, 0), 1, 2, 3, 4, 5, 6, 7, 8, 9)));
    notUnpacked("9 columns", checked(ahead(head(77, 0, 1, 9, 0, 0), 1, 2, 3, 4, 5, 6, 7, 8, 9)));
    notUnpacked("LOWER, more rows", checked(ahead(head(77, 1, 2, 1, 0, 0), 1, 2)));
    notUnpacked("LOWER with an a", checked(ahead(head(77, 1, 1, 1, 1, 0), 1)));
    notUnpacked("SPARSE with a b", checked(77, 3, 1, 1, 0, 1, 0));
  }

  private static void termVI_unpackedNumbersFinite() {
    Due.says("(numbers finite, not -0");
    double[] none = {Double.POSITIVE_INFINITY, Double.NEGATIVE_INFINITY, Double.NaN, Double.longBitsToDouble(-1L)};
    for (double d : none) {
      notUnpacked("the first " + d, checked(ahead(head(77, 0, 1, 3, 0, 0), d, 1, 2)));
      notUnpacked("the last " + d, checked(ahead(head(77, 0, 1, 3, 0, 0), 1, 2, d)));
      notUnpacked("SPARSE " + d, checked(sparse(1, d, 1, 1)));
    }
    for (double d : new double[] {MAX, -MAX, MIN, -MIN, 0}) {
      SystemLab x = new SystemLab();
      Due.is(d + "", unpacked(x, checked(ahead(head(77, 0, 1, 1, 0, 0), d))), 0);
      Due.isNumber(d + "", x.get(0, 0, 0), d);
    }
  }

  private static void termVI_unpackedNumbersNotMinusZero() {
    Due.says("(numbers finite, not -0");
    notUnpacked("the first", checked(ahead(head(77, 0, 1, 3, 0, 0), -0.0, 1, 2)));
    notUnpacked("the last", checked(ahead(head(77, 0, 1, 3, 0, 0), 1, 2, -0.0)));
    notUnpacked("of LOWER", checked(ahead(head(77, 1, 1, 1, 0, 0), -0.0)));
    notUnpacked("of SPARSE", checked(sparse(1, -0.0, 1, 1)));
  }

  private static void termVI_unpackedSparseRowByRow() {
    Due.says("of SPARSE row by row");
    Due.is("row by row", unpacked(new SystemLab(), checked(sparse(4, 2, 0, 0, 0, 4, 1, 0, 3, 4))), 0);
    notUnpacked("rows turned", checked(sparse(2, 2, 1, 0, 0, 4)));
    notUnpacked("columns turned", checked(sparse(2, 2, 1, 2, 1, 1)));
    notUnpacked("a place twice", checked(sparse(2, 2, 1, 2, 1, 2)));
    notUnpacked("the last two turned", checked(sparse(3, 2, 0, 0, 3, 4, 3, 3)));
    notUnpacked("no such row", checked(sparse(1, 2, 4, 0)));
    notUnpacked("no such column", checked(sparse(1, 2, 0, 5)));
    notUnpacked("no such column, between two", checked(sparse(3, 2, 0, 4, 0, 5, 1, 0)));
    notUnpacked("row 255, column 255", checked(sparse(1, 2, 255, 255)));
  }

  private static void termVI_unpackedSparseNot0() {
    Due.says("of SPARSE row by row and not 0)");
    notUnpacked("a 0", checked(sparse(1, 0, 1, 1)));
    notUnpacked("some 0s", checked(sparse(3, 0, 1, 1, 1, 2, 1, 3)));
    Due.is("the least", unpacked(new SystemLab(), checked(sparse(1, MIN, 1, 1))), 0);
  }

  private static void termVI_unpackedSparseAsManyAsAreTold() {
    Due.says("of SPARSE: how many numbers are not 0");
    notUnpacked("one less", checked(sparse(1, 2, 0, 0, 0, 1)));
    notUnpacked("one more", checked(sparse(3, 2, 0, 0, 0, 1)));
    notUnpacked("none told", checked(sparse(0, 2, 0, 0)));
    notUnpacked("one told, none there", checked(sparse(1, 2)));
    notUnpacked("255 told", checked(sparse(255, 2, 0, 0)));
    notUnpacked("no count", checked(77, 3, 4, 5, 0, 0));
    Due.is("none", unpacked(new SystemLab(), checked(sparse(0, 2))), 0);
  }

  private static void termVI_unpackedSparseAtMost20() {
    Due.says("of SPARSE: how many numbers are not 0");
    int[] places = new int[42];
    for (int k = 0; k < 21; k++) {
      places[2 * k] = k / 5;
      places[2 * k + 1] = k % 5;
    }
    SystemLab x = new SystemLab();
    Due.is("20", unpacked(x, checked(sparse(20, 2, java.util.Arrays.copyOf(places, 40)))), 0);
    Due.is("20 are there", x.shape(0, 5), 20);
    int[] more = sparse(21, 2, places);
    more[2] = 5;
    notUnpacked("21, in 5 rows", checked(more));
  }

  // ---- 39, 40

  private static void promise39_howManyNoneWhenThereIsNoneSuch() {
    Due.says("A matrix is PACKED: how many bytes; NONE when there is none such");
    SystemLab x = new SystemLab();
    Due.one(x, 2);
    x.drop(Due.one(x, 3));
    for (int m : new int[] {-1, 1, 23, 24, LEAST, MOST}) {
      Due.is("pack(" + m + ")", x.pack(m), -1);
      Due.is("nothing is packed", x.octet(0), -1);
    }
    Due.is("pack(0)", x.pack(0), 16);
  }

  private static void promise40_noneWhenThereIsNoneSuch() {
    Due.says("NONE when there is none such");
    SystemLab x = new SystemLab();
    for (int i : new int[] {0, -1, 1, 599, 600}) {
      Due.is("nothing packed, octet " + i, x.octet(i), -1);
    }
    x.pack(Due.one(x, 2));
    for (int i : new int[] {-1, 16, 17, 599, 600, LEAST, MOST}) {
      Due.is("octet " + i, x.octet(i), -1);
    }
    Due.is("the last", x.octet(15) >= 0, true);
  }

  private static void promise40_0To255() {
    Due.says("Byte i of what was PACKED latest, 0 .. 255");
    SystemLab x = new SystemLab();
    int m = x.matrix(0, 1, 1, 0, 0);
    for (int b : new int[] {0, 1, 127, 128, 254, 255}) {
      x.put(m, 0, 0, 0x3FF0000000000000L | b);
      x.pack(m);
      Due.is("the last of the BITS", x.octet(13), b);
    }
  }

  private static void promise40_ofWhatWasPackedLatest() {
    Due.says("of what was PACKED latest");
    SystemLab x = new SystemLab();
    int large = x.matrix(0, 8, 8, 0, 0);
    int small = Due.one(x, 2);
    x.pack(large);
    x.pack(small);
    Due.is("its rows", x.octet(2), 1);
    Due.is("no byte of the one before", x.octet(16), -1);
    x.put(small, 0, 0, Due.bits(-4));
    x.drop(small);
    Due.is("as it was then", x.octet(6), 64);
    Due.is("a pack that is refused", x.pack(small), -1);
    Due.is("as before it", x.octet(6), 64);
  }

  // ---- 41, 42

  private static void promise41_ofEachNumberTheHighestFirst() {
    Due.says("Twenty bytes come behind those on the tape, of each number the highest first");
    SystemLab x = new SystemLab();
    int[] row = checked(ahead(head(77, 0, 1, 3, 0, 0), -1.1, MAX, -MIN));
    Due.is("bytes", row.length, 32);
    for (int at = 0; at < 40; at += 20) {
      int[] five = Due.five(row, at);
      Due.is("feed", x.feed(five[0], five[1], five[2], five[3], five[4]), at + 20);
    }
    x.end(32);
    Due.is("unpack", x.unpack(), 0);
    Due.matrixIs("read", x, 0, new double[][] {{-1.1, MAX, -MIN}});
  }

  private static void promise41_behindThoseOnTheTape() {
    Due.says("Twenty bytes come behind those on the tape");
    SystemLab x = new SystemLab();
    int[] row = checked(ahead(head(77, 0, 1, 2, 0, 0), 1, 2));
    x.pack(unpacked(x, row));
    x.take();
    x.end(7);
    int[] five = Due.five(row, 7);
    Due.is("7 and 20", x.feed(five[0], five[1], five[2], five[3], five[4]), 27);
    x.end(row.length);
    Due.is("unpack", x.unpack(), 1);
    Due.is("the same", x.same(0, 1), 1);
  }

  private static void promise41_noneWhenThereWouldBeMoreThan600() {
    Due.says("how many there are; NONE when there would be more than 600");
    SystemLab x = new SystemLab();
    for (int k = 20; k <= 600; k += 20) {
      Due.is("feed", x.feed(k, k, k, k, k), k);
    }
    Due.is("620", x.feed(1, 1, 1, 1, 1), -1);
    Due.is("600 stay", x.count(3), 600);
    for (int n : new int[] {599, 590, 581}) {
      x.end(n);
      Due.is(n + " and 20", x.feed(1, 1, 1, 1, 1), -1);
      Due.is("they stay", x.count(3), n);
    }
    x.end(580);
    Due.is("580 and 20", x.feed(1, 1, 1, 1, 1), 600);
  }

  private static void promise42_itsFirstNBytesAlone() {
    Due.says("The tape has its first n bytes alone: true");
    SystemLab x = new SystemLab();
    x.feed(1, 2, 3, 4, 5);
    for (int n : new int[] {20, 19, 19, 1, 0, 0}) {
      Due.is("end(" + n + ")", x.end(n), true);
      Due.is("count", x.count(3), n);
    }
  }

  private static void promise42_falseWhenItHasNotSoMany() {
    Due.says("false when it has not so many");
    SystemLab x = new SystemLab();
    Due.is("of none", x.end(1), false);
    x.feed(1, 2, 3, 4, 5);
    for (int n : new int[] {21, 600, 601, MOST}) {
      Due.is("end(" + n + ")", x.end(n), false);
    }
    x.end(5);
    Due.is("those that went stay away", x.end(6), false);
    Due.is("5 stay", x.count(3), 5);
  }

  private static void promise42_falseWhenNIsBelow0() {
    Due.says("or n is below 0");
    SystemLab x = new SystemLab();
    Due.is("of none", x.end(-1), false);
    x.feed(1, 2, 3, 4, 5);
    for (int n : new int[] {-1, -20, LEAST}) {
      Due.is("end(" + n + ")", x.end(n), false);
    }
    Due.is("20 stay", x.count(3), 20);
  }

  // ---- 43

  private static void promise43_theBytesThatWerePackedLatest() {
    Due.says("The tape has the bytes that were PACKED latest");
    SystemLab x = new SystemLab();
    int m = Due.full(x, new double[][] {{1, 2}, {3, 4}});
    x.pack(m);
    x.put(m, 0, 0, Due.bits(9));
    x.feed(1, 2, 3, 4, 5);
    x.feed(1, 2, 3, 4, 5);
    x.feed(1, 2, 3, 4, 5);
    Due.is("take", x.take(), 40);
    Due.is("those alone", x.count(3), 40);
    Due.is("unpack", x.unpack(), 1);
    Due.matrixIs("as it was packed", x, 1, new double[][] {{1, 2}, {3, 4}});
    Due.is("once more", x.take(), 40);
    Due.is("unpack once more", x.unpack(), 2);
  }

  private static void promise43_noBytesWhenNothingWasPacked() {
    Due.says("The tape has the bytes that were PACKED latest (at most 600): how many");
    SystemLab x = new SystemLab();
    Due.is("take", x.take(), 0);
    x.feed(1, 2, 3, 4, 5);
    Due.is("take", x.take(), 0);
    Due.is("none on the tape", x.count(3), 0);
  }

  private static void promise43_theMost() {
    Due.says("(at most 600): how many");
    SystemLab x = new SystemLab();
    x.pack(x.matrix(0, 8, 8, 0, 0));
    Due.is("take", x.take(), 520);
    for (int n = 540; n <= 600; n += 20) {
      Due.is("feed behind it", x.feed(0, 0, 0, 0, 0), n);
    }
    Due.is("no more", x.feed(0, 0, 0, 0, 0), -1);
    Due.is("take again", x.take(), 520);
  }

  // ---- 44

  private static SystemLab withOneOnTheTape() {
    SystemLab x = new SystemLab();
    x.pack(Due.full(x, new double[][] {{1, 2}}));
    x.take();
    return x;
  }

  private static void promise44_theTapeIsEmptyThen() {
    Due.says("The tape, which is empty then, is UNPACKED: the new matrix");
    SystemLab x = withOneOnTheTape();
    Due.is("unpack", x.unpack(), 1);
    Due.is("the tape is empty", x.count(3), 0);
    Due.is("nothing is left to unpack", x.unpack(), -1);
    Due.is("what is PACKED stays", x.octet(0), 77);
  }

  private static void promise44_theTapeIsEmptyThenAlsoWhenItIsRefused() {
    Due.says("The tape, which is empty then");
    SystemLab x = withOneOnTheTape();
    x.feed(0, 0, 0, 0, 0);
    Due.is("unpack", x.unpack(), -1);
    Due.is("the tape is empty", x.count(3), 0);
    x.take();
    Due.crowdMatrices(x);
    Due.is("beside 24", x.unpack(), -1);
    Due.is("the tape is empty", x.count(3), 0);
  }

  private static void promise44_noneWhenItIsNotSuchARow() {
    Due.says("NONE when it is not such a row of bytes");
    SystemLab x = new SystemLab();
    Due.is("an empty tape", x.unpack(), -1);
    x.feed(0, 0, 0, 0, 0);
    Due.is("0s", x.unpack(), -1);
    x.feed(-1, -1, -1, -1, -1);
    Due.is("255s", x.unpack(), -1);
    x.feed(77 << 24, 0, 0, 0, 0);
    x.end(1);
    Due.is("77 alone", x.unpack(), -1);
    Due.is("nothing was made", x.count(0), 0);
  }

  private static void promise44_noneWhenThereAre24() {
    Due.says("or there are 24");
    SystemLab x = withOneOnTheTape();
    Due.crowdMatrices(x);
    Due.is("beside 24", x.unpack(), -1);
    Due.is("24 are there", x.count(0), 24);
    x.drop(23);
    x.take();
    Due.is("beside 23", x.unpack(), 23);
    Due.is("the same", x.same(0, 23), 1);
  }

  // ---- 45, and the constant

  private static void promise45_from0ToTheMost() {
    Due.says("0 matrices, 1 FACTORS, 2 vectors, 3 bytes of the tape");
    SystemLab x = new SystemLab();
    int m = Due.one(x, 2);
    Due.crowdMatrices(x);
    Due.crowdVectors(x);
    for (int k = 0; k < 12; k++) {
      x.factor(m, 0, false);
    }
    for (int k = 0; k < 30; k++) {
      x.feed(0, 0, 0, 0, 0);
    }
    int[] most = {24, 12, 24, 600};
    for (int what = 0; what < 4; what++) {
      Due.is("count(" + what + ")", x.count(what), most[what]);
    }
    x.drop(m);
    x.release(11);
    x.forget(0);
    x.end(599);
    for (int what = 0; what < 4; what++) {
      Due.is("count(" + what + "), one less", x.count(what), most[what] - 1);
    }
  }

  private static void promise45_noneForOthers() {
    Due.says("NONE for others");
    SystemLab x = new SystemLab();
    for (int what : new int[] {-1, 4, 5, LEAST, MOST}) {
      Due.is("count(" + what + ")", x.count(what), -1);
    }
  }

  private static void term_the512thCallIsAnsweredToo() {
    Due.says("An object is used for at most 512 calls after it has been made");
    SystemLab x = new SystemLab();
    int m = Due.full(x, new double[][] {{4, 1}, {2, 3}});
    for (int call = 6; call < 512; call += 2) {
      Due.is("sum, call " + call, x.sum(m, m), 1);
      Due.is("drop, call " + (call + 1), x.drop(1), true);
    }
    Due.isNumber("call 512", x.determinant(m), 10);
  }

  private static void term_theConstantNone() {
    Due.says("NONE = -1");
    Due.is("NONE", SystemLab.NONE, -1);
    Due.is("what is refused", new SystemLab().pack(0), SystemLab.NONE);
  }
}
