import java.util.Random;

/**
 * Runs of calls at random (the seeds are fixed), each answered by SystemLab and by the Model that is
 * written with the library's doubles and big numbers: both must answer alike.
 * With two numbers as arguments: from which seed on, and how many.
 */
public final class AgainstModelTest {
  private static final int CALLS = 512;
  private static int wrong = 0;
  private static long calls = 0;

  private final Random random;
  private final SystemLab lab = new SystemLab();
  private final Model model = new Model();
  private final long seed;
  private final int kind;
  private final int otherKind;
  private int left = CALLS;

  private AgainstModelTest(long seed) {
    this.seed = seed;
    random = new Random(seed * 7919 + 13);
    kind = random.nextInt(12);
    otherKind = random.nextInt(4) == 0 ? random.nextInt(12) : kind;
  }

  public static void main(String[] args) {
    long first = args.length > 0 ? Long.parseLong(args[0]) : 0;
    long many = args.length > 1 ? Long.parseLong(args[1]) : 1500;
    for (long seed = first; seed < first + many && wrong < 20; seed++) {
      new AgainstModelTest(seed).run();
    }
    System.out.println(calls + " calls, " + wrong + " unlike the model");
    if (wrong != 0) {
      System.exit(1);
    }
  }

  private void run() {
    if (random.nextInt(3) == 0) {
      crowd();
    }
    while (left > 0 && wrong < 20) {
      scene(random.nextInt(10));
    }
  }

  /** Fills all rooms but a few. */
  private void crowd() {
    int what = random.nextInt(3);
    int n = what == 1 ? 12 : 24;
    if (what == 1) {
      int m = newMatrix(0, 1, 1, 0, 0);
      put(m, 0, 0, Double.doubleToRawLongBits(2.0));
      for (int k = 0; k < n; k++) {
        factor(m, random.nextInt(4), random.nextBoolean());
      }
      return;
    }
    for (int k = 0; k < n; k++) {
      if (what == 0) {
        newMatrix(random.nextInt(3) == 0 ? 3 : 0, 1 + random.nextInt(3), 1 + random.nextInt(3), 0, 0);
      } else {
        newVector(1 + random.nextInt(8));
      }
    }
  }

  // ---- comparing

  private long due(long got, long want, String name, Object... args) {
    left--;
    if (left < 0) {
      // what calls beyond the 512th answer is free
      return want;
    }
    calls++;
    if (got != want) {
      wrong++;
      StringBuilder call = new StringBuilder(name).append('(');
      for (Object a : args) {
        call.append(call.charAt(call.length() - 1) == '(' ? "" : ", ").append(a);
      }
      System.out.println("seed " + seed + " call " + (CALLS - left) + ": " + call + ") answered " + got
          + ", the model " + want);
    }
    return want;
  }

  private static long truth(boolean b) {
    return b ? 1 : 0;
  }

  // ---- arguments

  private int any(Object[] row) {
    if (random.nextInt(40) == 0) {
      return random.nextInt(30) - 3;
    }
    int at = random.nextInt(row.length);
    for (int k = 0; k < row.length; k++) {
      if (row[(at + k) % row.length] != null) {
        return (at + k) % row.length;
      }
    }
    return random.nextInt(row.length);
  }

  private int matrixNumber() {
    return any(model.matrices);
  }

  private int factorNumber() {
    return any(model.factors);
  }

  private int vectorNumber() {
    return any(model.vectors);
  }

  private int matrixOf(int rows, int columns) {
    int at = random.nextInt(24);
    for (int k = 0; k < 24; k++) {
      Model.M m = model.matrices[(at + k) % 24];
      if (m != null && (rows == 0 || m.rows == rows) && (columns == 0 || m.columns == columns)) {
        return (at + k) % 24;
      }
    }
    return matrixNumber();
  }

  private int squareNumber() {
    int at = random.nextInt(24);
    for (int k = 0; k < 24; k++) {
      Model.M m = model.matrices[(at + k) % 24];
      if (m != null && m.rows == m.columns) {
        return (at + k) % 24;
      }
    }
    return matrixNumber();
  }

  private int vectorOf(int n) {
    int at = random.nextInt(24);
    for (int k = 0; k < 24; k++) {
      if (model.vectors[(at + k) % 24] != null && model.vectors[(at + k) % 24].length == n) {
        return (at + k) % 24;
      }
    }
    return newVector(n);
  }

  private int index() {
    return random.nextInt(60) == 0 ? (random.nextBoolean() ? -1 : 8 + random.nextInt(3)) : random.nextInt(8);
  }

  private int rowsOf(int m) {
    return m >= 0 && m < 24 && model.matrices[m] != null ? model.matrices[m].rows : 1 + random.nextInt(8);
  }

  private int columnsOf(int m) {
    return m >= 0 && m < 24 && model.matrices[m] != null ? model.matrices[m].columns : 1 + random.nextInt(8);
  }

  private double dyadic(int bits, int low, int high) {
    double m = random.nextLong() >>> (64 - bits);
    return (random.nextBoolean() ? m : -m) * Math.pow(2, low + random.nextInt(high - low + 1));
  }

  private double number() {
    int k = random.nextInt(30) == 0 ? random.nextInt(12) : random.nextInt(4) == 0 ? otherKind : kind;
    switch (k) {
      case 0:
        return random.nextInt(11) - 5;
      case 1:
        return (random.nextInt(65) - 32) / 8.0;
      case 2:
        return random.nextDouble() * 8 - 4;
      case 3:
        return Double.longBitsToDouble(random.nextLong());
      case 4:
        return Double.longBitsToDouble(random.nextLong() >>> (12 + random.nextInt(50)));
      case 5:
        return dyadic(53, 960, 971);
      case 6:
        return dyadic(1 + random.nextInt(53), -60, -13);
      case 7:
        return 1.0 / (1 + random.nextInt(15));
      case 8:
        return new double[] {0.0, -0.0, 1, -1, Double.MIN_VALUE, -Double.MIN_VALUE, Double.MAX_VALUE,
          -Double.MAX_VALUE, Double.NaN, Double.POSITIVE_INFINITY, Double.NEGATIVE_INFINITY,
          Double.MIN_NORMAL, 0x1p40, -0x1p40, 0x1p-60, 0x1p-61, Math.nextUp(0x1p40)}[random.nextInt(17)];
      case 9:
        return Math.pow(2, random.nextInt(101) - 60) * (random.nextBoolean() ? 1 : -1);
      case 10:
        return dyadic(53, -540, -500);
      default:
        return dyadic(1 + random.nextInt(3), -3, 3) + (random.nextInt(3) == 0 ? 0x1p-52 : 0);
    }
  }

  private long bits() {
    return Double.doubleToRawLongBits(number());
  }

  // ---- calls that others need

  private int newMatrix(int form, int rows, int columns, int a, int b) {
    return (int) due(lab.matrix(form, rows, columns, a, b), model.matrix(form, rows, columns, a, b),
        "matrix", form, rows, columns, a, b);
  }

  private void put(int m, int i, int j, long bits) {
    due(truth(lab.put(m, i, j, bits)), truth(model.put(m, i, j, bits)), "put", m, i, j, bits);
  }

  private int factor(int m, int method, boolean fused) {
    return (int) due(lab.factor(m, method, fused), model.factor(m, method, fused), "factor", m, method, fused);
  }

  private int newVector(int n) {
    int v = (int) due(lab.vector(n), model.vector(n), "vector", n);
    for (int i = 0; i < n && v >= 0 && random.nextInt(6) != 0; i++) {
      long bits = bits();
      due(truth(lab.set(v, i, bits)), truth(model.set(v, i, bits)), "set", v, i, bits);
    }
    return v;
  }

  private void see(int m) {
    for (int k = 0; k < 8; k++) {
      due(lab.shape(m, k), model.shape(m, k), "shape", m, k);
    }
    for (int i = 0; i < rowsOf(m); i++) {
      for (int j = 0; j < columnsOf(m); j++) {
        due(lab.get(m, i, j), model.get(m, i, j), "get", m, i, j);
      }
    }
  }

  private void seeVector(int v) {
    int n = (int) due(lab.size(v), model.size(v), "size", v);
    for (int i = -1; i <= n; i++) {
      due(lab.value(v, i), model.value(v, i), "value", v, i);
    }
  }

  private void seeFactor(int f) {
    int n = f < 0 || f > 11 || model.factors[f] == null ? 1 : model.factors[f].n;
    for (int i = 0; i < n; i++) {
      for (int j = 0; j < n; j++) {
        due(lab.part(f, i, j), model.part(f, i, j), "part", f, i, j);
      }
      due(lab.order(f, 0, i), model.order(f, 0, i), "order", f, 0, i);
      due(lab.order(f, 1, i), model.order(f, 1, i), "order", f, 1, i);
    }
    due(lab.growth(f), model.growth(f), "growth", f);
    for (int k = -1; k < 3; k++) {
      due(lab.pivots(f, k), model.pivots(f, k), "pivots", f, k);
    }
  }

  private void makeRoom() {
    while (random.nextInt(3) != 0 && model.count(0) > 20) {
      int m = matrixNumber();
      due(truth(lab.drop(m)), truth(model.drop(m)), "drop", m);
    }
    while (random.nextInt(3) != 0 && model.count(2) > 20) {
      int v = vectorNumber();
      due(truth(lab.forget(v)), truth(model.forget(v)), "forget", v);
    }
    while (random.nextInt(3) != 0 && model.count(1) > 9) {
      int f = factorNumber();
      due(truth(lab.release(f)), truth(model.release(f)), "release", f);
    }
    int what = random.nextInt(6) - 1;
    due(lab.count(what), model.count(what), "count", what);
  }

  // ---- scenes

  private void scene(int which) {
    makeRoom();
    switch (which) {
      case 0:
      case 1:
        build(true);
        break;
      case 2:
        build(false);
        break;
      case 3:
        shapes();
        break;
      case 4:
      case 5:
        factors();
        break;
      case 6:
        solutions();
        break;
      case 7:
        exactly();
        break;
      case 8:
        bounds();
        break;
      default:
        bytes();
    }
  }

  private int divisor(int n) {
    int d = 1 + random.nextInt(n);
    return n % d == 0 || random.nextInt(10) == 0 ? d : 1;
  }

  /** A matrix, mostly square, and most of its numbers. */
  private void build(boolean square) {
    int rows = random.nextInt(50) == 0 ? random.nextInt(12) - 2 : 1 + random.nextInt(random.nextInt(3) == 0 ? 8 : 5);
    int columns = square ? rows : 1 + random.nextInt(8);
    int form = random.nextInt(30) == 0 ? random.nextInt(8) - 1 : random.nextInt(3) != 0 ? 0 : random.nextInt(5);
    int a = form == 2 ? random.nextInt(8) : form == 4 ? divisor(Math.max(rows, 1)) : 0;
    int b = form == 2 ? random.nextInt(8) : form == 4 ? divisor(Math.max(columns, 1)) : 0;
    a = random.nextInt(40) == 0 ? random.nextInt(11) - 2 : a;
    int m = newMatrix(form, rows, columns, a, b);
    if (m < 0) {
      return;
    }
    int style = random.nextInt(6);
    int density = random.nextInt(3) == 0 ? 3 : 10;
    for (int i = 0; i < rows; i++) {
      for (int j = 0; j < columns; j++) {
        if (random.nextInt(10) < density) {
          fill(m, i, j, style);
        }
      }
    }
    if (random.nextInt(4) == 0) {
      put(m, index(), index(), bits());
    }
  }

  private void fill(int m, int i, int j, int style) {
    double old = j < rowsOf(m) && i < columnsOf(m) ? Double.longBitsToDouble(model.get(m, j, i)) : 0;
    double above = i > 0 ? Double.longBitsToDouble(model.get(m, i - 1, j)) : 0;
    double d = number();
    if (style == 1 && i > j) {
      d = old;
    } else if (style == 1 && i == j) {
      d = Math.abs(d) * 8;
    } else if (style == 2 && i > 0 && i % 2 == 0) {
      d = above * 2;
    } else if (style == 3) {
      d = 1.0 / (i + j + 1);
    } else if (style == 4 && i == rowsOf(m) - 1) {
      d = Double.longBitsToDouble(model.get(m, 0, j));
    }
    put(m, i, j, Double.doubleToRawLongBits(d));
  }

  private void shapes() {
    int x = matrixNumber();
    int y = random.nextBoolean() ? matrixOf(rowsOf(x), columnsOf(x)) : matrixOf(columnsOf(x), 0);
    boolean fused = random.nextBoolean();
    int made = Model.NONE;
    switch (random.nextInt(8)) {
      case 0:
        made = (int) due(lab.sum(x, y), model.sum(x, y), "sum", x, y);
        break;
      case 1:
      case 2:
        made = (int) due(lab.product(x, y, fused), model.product(x, y, fused), "product", x, y, fused);
        break;
      case 3:
        made = (int) due(lab.transpose(x), model.transpose(x), "transpose", x);
        break;
      case 4:
      case 5:
        int form = random.nextInt(7) - 1;
        int a = form == 2 || form == 4 || random.nextInt(20) == 0 ? index() : 0;
        int b = form == 2 || form == 4 || random.nextInt(20) == 0 ? index() : 0;
        made = (int) due(lab.formed(x, form, a, b), model.formed(x, form, a, b), "formed", x, form, a, b);
        break;
      case 6:
        int i = random.nextInt(4) == 0 ? index() : 0;
        int j = random.nextInt(4) == 0 ? index() : 0;
        int rows = random.nextInt(30) == 0 ? Integer.MAX_VALUE : index();
        int columns = index();
        made = (int) due(lab.block(x, i, j, rows, columns), model.block(x, i, j, rows, columns),
            "block", x, i, j, rows, columns);
        break;
      default:
        made = x;
    }
    due(lab.same(x, y), model.same(x, y), "same", x, y);
    due(lab.same(x, made), model.same(x, made), "same", x, made);
    if (made >= 0) {
      see(made);
    }
  }

  private void factors() {
    int m = random.nextInt(10) == 0 ? matrixNumber() : squareNumber();
    int method = random.nextInt(30) == 0 ? random.nextInt(7) - 2 : random.nextInt(4);
    int f = factor(m, method, random.nextBoolean());
    if (f >= 0 || random.nextInt(20) == 0) {
      seeFactor(f);
    }
    if (f >= 0 && random.nextInt(3) == 0) {
      int inverse = (int) due(lab.inverse(f), model.inverse(f), "inverse", f);
      if (inverse >= 0) {
        see(inverse);
      }
    }
  }

  private int factorSize(int f) {
    return f >= 0 && f < 12 && model.factors[f] != null ? model.factors[f].n : 3;
  }

  private void solutions() {
    int f = factorNumber();
    int n = factorSize(f);
    int r = random.nextInt(15) == 0 ? vectorNumber() : vectorOf(n);
    int s = (int) due(lab.solve(f, r), model.solve(f, r), "solve", f, r);
    seeVector(s);
    int m = random.nextInt(15) == 0 ? matrixNumber() : matrixOf(n, n);
    s = s >= 0 && random.nextInt(3) != 0 ? s : vectorOf(columnsOf(m));
    r = random.nextInt(3) != 0 ? r : vectorOf(rowsOf(m));
    for (int i = -1; i <= rowsOf(m); i++) {
      due(lab.residual(m, s, r, i), model.residual(m, s, r, i), "residual", m, s, r, i);
    }
    due(lab.greatest(m, s, r), model.greatest(m, s, r), "greatest", m, s, r);
    int rounds = random.nextInt(20) == 0 ? random.nextInt(30) - 5 : 1 + random.nextInt(20);
    due(lab.refine(m, f, s, r, rounds), model.refine(m, f, s, r, rounds), "refine", m, f, s, r, rounds);
    seeVector(s);
  }

  private void exactly() {
    int m = random.nextInt(4) == 0 ? matrixNumber() : squareNumber();
    int r = random.nextInt(15) == 0 ? vectorNumber() : vectorOf(rowsOf(m));
    int s = (int) due(lab.exactly(m, r), model.exactly(m, r), "exactly", m, r);
    if (s >= 2) {
      seeVector(s - 2);
    }
    due(lab.rank(m), model.rank(m), "rank", m);
    int k = random.nextInt(4) == 0 ? index() : random.nextInt(2);
    int v = (int) due(lab.nullVector(m, k), model.nullVector(m, k), "nullVector", m, k);
    if (v >= 0) {
      seeVector(v);
    }
    due(lab.determinant(m), model.determinant(m), "determinant", m);
    for (int d = random.nextInt(5) - 1; d < 29; d += 1 + random.nextInt(5)) {
      due(lab.digits(m, d), model.digits(m, d), "digits", m, d);
    }
    due(lab.condition(m), model.condition(m), "condition", m);
    int made = (int) due(lab.reorder(m), model.reorder(m), "reorder", m);
    for (int i = -1; i < 9; i++) {
      due(lab.place(i), model.place(i), "place", i);
    }
    if (made >= 0) {
      see(made);
    }
  }

  private void bounds() {
    int w = squareNumber();
    int n = rowsOf(w);
    int f = factor(w, random.nextInt(3), random.nextBoolean());
    int x = f < 0 ? matrixOf(n, n) : (int) due(lab.inverse(f), model.inverse(f), "inverse", f);
    x = random.nextInt(8) == 0 ? matrixOf(n, n) : x;
    int r = vectorOf(n);
    int s = f < 0 ? vectorOf(n) : (int) due(lab.solve(f, r), model.solve(f, r), "solve", f, r);
    s = random.nextInt(8) == 0 ? vectorOf(n) : s;
    if (random.nextInt(8) == 0) {
      w = matrixNumber();
    }
    due(lab.gap(x, w), model.gap(x, w), "gap", x, w);
    due(lab.bound(x, w, s, r), model.bound(x, w, s, r), "bound", x, w, s, r);
    due(lab.gap(w, x), model.gap(w, x), "gap", w, x);
    due(lab.bound(w, x, s, r), model.bound(w, x, s, r), "bound", w, x, s, r);
  }

  private void bytes() {
    int m = matrixNumber();
    int n = (int) due(lab.pack(m), model.pack(m), "pack", m);
    for (int k = 0; k < 12; k++) {
      int i = n < 1 || k == 0 ? index() : k == 1 ? n - 1 : k == 2 ? n : random.nextInt(n);
      due(lab.octet(i), model.octet(i), "octet", i);
    }
    switch (random.nextInt(4)) {
      case 0:
        due(lab.take(), model.take(), "take");
        break;
      case 1:
        feedRow(m, false);
        break;
      case 2:
        feedRow(m, true);
        break;
      default:
        due(lab.feed(m, n, -1, 4, 5), model.feed(m, n, -1, 4, 5), "feed", m, n, -1, 4, 5);
        due(lab.feed(-n, 9, 8, 7, 1 << 30), model.feed(-n, 9, 8, 7, 1 << 30), "feed", -n, 9, 8, 7, 1 << 30);
    }
    if (random.nextInt(5) == 0) {
      int end = random.nextInt(700) - 10;
      due(truth(lab.end(end)), truth(model.end(end)), "end", end);
    }
    due(lab.count(3), model.count(3), "count", 3);
    if (random.nextInt(3) != 0) {
      int made = (int) due(lab.unpack(), model.unpack(), "unpack");
      due(lab.count(3), model.count(3), "count", 3);
      if (made >= 0) {
        see(made);
      }
    }
  }

  /** Feeds the bytes of a matrix, as they are or with something wrong and the check put right. */
  private void feedRow(int m, boolean broken) {
    if (m < 0 || m > 23 || model.matrices[m] == null) {
      return;
    }
    int[] row = Model.packedOf(model.matrices[m]);
    if (broken) {
      for (int k = random.nextInt(2); k >= 0; k--) {
        int at = random.nextInt(random.nextBoolean() ? Math.min(row.length, 9) : row.length);
        row[at] = random.nextBoolean() ? random.nextInt(256) : row[at] ^ 1 << random.nextInt(8);
      }
      if (random.nextInt(4) != 0) {
        recheck(row);
      }
    }
    due(truth(lab.end(0)), truth(model.end(0)), "end", 0);
    for (int at = 0; at < row.length; at += 20) {
      int[] five = Due.five(row, at);
      due(lab.feed(five[0], five[1], five[2], five[3], five[4]),
          model.feed(five[0], five[1], five[2], five[3], five[4]),
          "feed", five[0], five[1], five[2], five[3], five[4]);
    }
    int end = row.length + (random.nextInt(10) == 0 ? random.nextInt(3) - 1 : 0);
    due(truth(lab.end(end)), truth(model.end(end)), "end", end);
  }

  private static void recheck(int[] row) {
    int c = 1;
    for (int i = 0; i < row.length - 2; i++) {
      c = (31 * c + row[i]) % 65521;
    }
    row[row.length - 2] = c >> 8;
    row[row.length - 1] = c & 255;
  }
}
