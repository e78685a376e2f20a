import java.math.BigInteger;
import java.util.ArrayList;
import java.util.Arrays;
import java.util.List;

/** What the document asks, written a second time with the library's own doubles and big numbers. */
final class Model {
  static final int NONE = -1;

  static final class M {
    int form;
    int rows;
    int columns;
    int a;
    int b;
    double[][] v;
  }

  static final class F {
    int n;
    int method;
    boolean fused;
    double[][] w;
    int[] rows;
    int[] columns;
    int exchanges;
    double before;
    int failed = -1;
  }

  final M[] matrices = new M[24];
  final F[] factors = new F[12];
  final double[][] vectors = new double[24][];
  int[] packed = new int[0];
  List<Integer> tape = new ArrayList<>();
  int[] order = new int[0];

  // ---- helpers

  private static int free(Object[] row) {
    for (int i = 0; i < row.length; i++) {
      if (row[i] == null) {
        return i;
      }
    }
    return NONE;
  }

  private static int count(Object[] row) {
    int n = 0;
    for (Object o : row) {
      n += o == null ? 0 : 1;
    }
    return n;
  }

  private M m(int m) {
    return m < 0 || m > 23 ? null : matrices[m];
  }

  private F f(int f) {
    return f < 0 || f > 11 ? null : factors[f];
  }

  private double[] v(int v) {
    return v < 0 || v > 23 ? null : vectors[v];
  }

  private static long bits(double d) {
    return Double.doubleToRawLongBits(d);
  }

  private static boolean finite(double d) {
    return !Double.isNaN(d) && !Double.isInfinite(d);
  }

  private static double zero(double d) {
    return d == 0 ? 0.0 : d;
  }

  private static M blank(int form, int rows, int columns, int a, int b) {
    boolean in = rows >= 1 && rows <= 8 && columns >= 1 && columns <= 8;
    boolean ok;
    switch (form) {
      case 0:
      case 3:
        ok = a == 0 && b == 0;
        break;
      case 1:
        ok = a == 0 && b == 0 && rows == columns;
        break;
      case 2:
        ok = rows == columns && a >= 0 && a <= 7 && b >= 0 && b <= 7;
        break;
      case 4:
        ok = a > 0 && b > 0 && rows % a == 0 && columns % b == 0;
        break;
      default:
        ok = false;
    }
    if (!in || !ok) {
      return null;
    }
    M m = new M();
    m.form = form;
    m.rows = rows;
    m.columns = columns;
    m.a = a;
    m.b = b;
    m.v = new double[rows][columns];
    return m;
  }

  private static boolean place(M m, int i, int j) {
    if (i < 0 || j < 0 || i >= m.rows || j >= m.columns) {
      return false;
    }
    if (m.form == 1) {
      return j <= i;
    }
    return m.form != 2 || i - j <= m.a && j - i <= m.b;
  }

  private static int filled(M m) {
    int n = 0;
    for (double[] row : m.v) {
      for (double d : row) {
        n += d != 0 ? 1 : 0;
      }
    }
    return n;
  }

  private static boolean lattice(double d) {
    if (Math.abs(d) > 0x1p40) {
      return false;
    }
    Exact e = Exact.of(d).times(Exact.of(0x1p60));
    return e.down.equals(BigInteger.ONE);
  }

  private static boolean lattice(M m) {
    for (double[] row : m.v) {
      if (!lattice(row)) {
        return false;
      }
    }
    return true;
  }

  private static boolean lattice(double[] row) {
    for (double d : row) {
      if (!lattice(d)) {
        return false;
      }
    }
    return true;
  }

  private static int width(double[][] v) {
    int w = 0;
    for (int i = 0; i < v.length; i++) {
      for (int j = 0; j < v.length; j++) {
        if (v[i][j] != 0 && Math.abs(i - j) > w) {
          w = Math.abs(i - j);
        }
      }
    }
    return w;
  }

  /** Puts a new full matrix of these numbers, if all are finite and there is room. */
  private int full(double[][] v) {
    int free = free(matrices);
    if (free < 0) {
      return NONE;
    }
    M m = blank(0, v.length, v[0].length, 0, 0);
    for (int i = 0; i < m.rows; i++) {
      for (int j = 0; j < m.columns; j++) {
        if (!finite(v[i][j])) {
          return NONE;
        }
        m.v[i][j] = zero(v[i][j]);
      }
    }
    matrices[free] = m;
    return free;
  }

  private int newVector(double[] d) {
    int free = free(vectors);
    if (free < 0 || d == null) {
      return NONE;
    }
    vectors[free] = new double[d.length];
    for (int i = 0; i < d.length; i++) {
      vectors[free][i] = zero(d[i]);
    }
    return free;
  }

  // ---- matrices

  int matrix(int form, int rows, int columns, int a, int b) {
    int free = free(matrices);
    M m = blank(form, rows, columns, a, b);
    if (free < 0 || m == null) {
      return NONE;
    }
    matrices[free] = m;
    return free;
  }

  boolean drop(int m) {
    if (m(m) == null) {
      return false;
    }
    matrices[m] = null;
    return true;
  }

  boolean put(int m, int i, int j, long bits) {
    double d = Double.longBitsToDouble(bits);
    if (m(m) == null || !place(m(m), i, j) || !finite(d)) {
      return false;
    }
    double old = m(m).v[i][j];
    m(m).v[i][j] = zero(d);
    if (m(m).form == 3 && filled(m(m)) > 20) {
      m(m).v[i][j] = old;
      return false;
    }
    return true;
  }

  long get(int m, int i, int j) {
    M x = m(m);
    if (x == null || i < 0 || j < 0 || i >= x.rows || j >= x.columns) {
      return -1;
    }
    return bits(x.v[i][j]);
  }

  int shape(int m, int what) {
    M x = m(m);
    if (x == null || what < 0 || what > 7) {
      return NONE;
    }
    if (what == 5) {
      return filled(x);
    }
    if (what == 6) {
      return lattice(x) ? 1 : 0;
    }
    if (what == 7) {
      return x.rows == x.columns ? width(x.v) : NONE;
    }
    return new int[] {x.form, x.rows, x.columns, x.a, x.b}[what];
  }

  int sum(int x, int y) {
    M p = m(x);
    M q = m(y);
    if (p == null || q == null || p.rows != q.rows || p.columns != q.columns) {
      return NONE;
    }
    double[][] v = new double[p.rows][p.columns];
    for (int i = 0; i < p.rows; i++) {
      for (int j = 0; j < p.columns; j++) {
        v[i][j] = p.v[i][j] + q.v[i][j];
      }
    }
    return full(v);
  }

  int product(int x, int y, boolean fused) {
    M p = m(x);
    M q = m(y);
    if (p == null || q == null || p.columns != q.rows) {
      return NONE;
    }
    double[][] v = new double[p.rows][q.columns];
    for (int i = 0; i < p.rows; i++) {
      for (int j = 0; j < q.columns; j++) {
        double s = 0;
        for (int k = 0; k < p.columns; k++) {
          s = fused ? Math.fma(p.v[i][k], q.v[k][j], s) : s + p.v[i][k] * q.v[k][j];
          if (!finite(s)) {
            return NONE;
          }
        }
        v[i][j] = s;
      }
    }
    return full(v);
  }

  int transpose(int m) {
    M x = m(m);
    if (x == null) {
      return NONE;
    }
    double[][] v = new double[x.columns][x.rows];
    for (int i = 0; i < x.rows; i++) {
      for (int j = 0; j < x.columns; j++) {
        v[j][i] = x.v[i][j];
      }
    }
    return full(v);
  }

  int formed(int m, int form, int a, int b) {
    M x = m(m);
    int free = free(matrices);
    if (x == null || free < 0) {
      return NONE;
    }
    M made = blank(form, x.rows, x.columns, a, b);
    if (made == null || form == 3 && filled(x) > 20) {
      return NONE;
    }
    for (int i = 0; i < x.rows; i++) {
      for (int j = 0; j < x.columns; j++) {
        if (x.v[i][j] != 0 && !place(made, i, j)) {
          return NONE;
        }
        made.v[i][j] = x.v[i][j];
      }
    }
    matrices[free] = made;
    return free;
  }

  int block(int m, int i, int j, int rows, int columns) {
    M x = m(m);
    if (x == null || rows < 1 || columns < 1 || i < 0 || j < 0) {
      return NONE;
    }
    if ((long) i + rows > x.rows || (long) j + columns > x.columns) {
      return NONE;
    }
    double[][] v = new double[rows][];
    for (int k = 0; k < rows; k++) {
      v[k] = Arrays.copyOfRange(x.v[i + k], j, j + columns);
    }
    return full(v);
  }

  int same(int x, int y) {
    if (m(x) == null || m(y) == null) {
      return NONE;
    }
    return Arrays.deepEquals(m(x).v, m(y).v) ? 1 : 0;
  }

  // ---- factors

  private static double less(double t, double a, double b, boolean fused) {
    return fused ? Math.fma(-a, b, t) : t - a * b;
  }

  private static F worked(M m, int method, boolean fused) {
    F f = new F();
    int n = m.rows;
    f.n = n;
    f.method = method;
    f.fused = fused;
    f.w = new double[n][];
    f.rows = new int[n];
    f.columns = new int[n];
    for (int i = 0; i < n; i++) {
      f.w[i] = m.v[i].clone();
      f.rows[i] = i;
      f.columns[i] = i;
      for (double d : m.v[i]) {
        f.before = Math.max(f.before, Math.abs(d));
      }
    }
    if (method == 3) {
      roots(f);
    } else {
      pivoted(f);
    }
    return f;
  }

  private static void pivoted(F f) {
    double[][] w = f.w;
    for (int k = 0; k < f.n; k++) {
      int row = k;
      int column = k;
      if (f.method > 0) {
        for (int i = k; i < f.n; i++) {
          for (int j = k; j < (f.method == 2 ? f.n : k + 1); j++) {
            if (Math.abs(w[i][j]) > Math.abs(w[row][column])) {
              row = i;
              column = j;
            }
          }
        }
      }
      if (row != k) {
        double[] line = w[k];
        w[k] = w[row];
        w[row] = line;
        int t = f.rows[k];
        f.rows[k] = f.rows[row];
        f.rows[row] = t;
        f.exchanges++;
      }
      if (column != k) {
        for (double[] line : w) {
          double t = line[k];
          line[k] = line[column];
          line[column] = t;
        }
        int t = f.columns[k];
        f.columns[k] = f.columns[column];
        f.columns[column] = t;
        f.exchanges++;
      }
      if (w[k][k] == 0) {
        f.failed = k;
        return;
      }
      for (int i = k + 1; i < f.n; i++) {
        w[i][k] = w[i][k] / w[k][k];
        if (!finite(w[i][k])) {
          f.failed = k;
        }
        for (int j = k + 1; j < f.n; j++) {
          w[i][j] = less(w[i][j], w[i][k], w[k][j], f.fused);
          if (!finite(w[i][j])) {
            f.failed = k;
          }
        }
      }
      if (f.failed >= 0) {
        return;
      }
    }
  }

  private static void roots(F f) {
    double[][] h = new double[f.n][f.n];
    for (int i = 0; i < f.n; i++) {
      for (int j = 0; j <= i; j++) {
        double t = f.w[i][j];
        for (int k = 0; k < j; k++) {
          t = less(t, h[i][k], h[j][k], f.fused);
          if (!finite(t)) {
            f.failed = i;
            return;
          }
        }
        if (i == j && !(t > 0)) {
          f.failed = i;
          return;
        }
        h[i][j] = i == j ? Math.sqrt(t) : t / h[j][j];
        if (!finite(h[i][j])) {
          f.failed = i;
          return;
        }
      }
    }
    f.w = h;
  }

  int factor(int m, int method, boolean fused) {
    M x = m(m);
    int free = free(factors);
    if (x == null || method < 0 || method > 3 || x.rows != x.columns || free < 0) {
      return NONE;
    }
    F made = worked(x, method, fused);
    if (made.failed >= 0) {
      return -2 - made.failed;
    }
    factors[free] = made;
    return free;
  }

  boolean release(int f) {
    if (f(f) == null) {
      return false;
    }
    factors[f] = null;
    return true;
  }

  long part(int f, int i, int j) {
    F x = f(f);
    if (x == null || i < 0 || j < 0 || i >= x.n || j >= x.n) {
      return -1;
    }
    return bits(x.w[i][j]);
  }

  int order(int f, int axis, int k) {
    F x = f(f);
    if (x == null || k < 0 || k >= x.n || axis != 0 && axis != 1) {
      return NONE;
    }
    return (axis == 0 ? x.rows : x.columns)[k];
  }

  long growth(int f) {
    F x = f(f);
    if (x == null) {
      return -1;
    }
    double most = 0;
    for (int i = 0; i < x.n; i++) {
      for (int j = 0; j < x.n; j++) {
        if (x.method == 3 ? j <= i : i <= j) {
          most = Math.max(most, Math.abs(x.w[i][j]));
        }
      }
    }
    return bits(most / x.before);
  }

  long pivots(int f, int what) {
    F x = f(f);
    if (x == null || what != 0 && what != 1) {
      return -1;
    }
    double p = 1;
    long e = 0;
    for (int k = 0; k < x.n; k++) {
      double u = x.w[k][k];
      long t = 0;
      while (Math.abs(u) >= 2) {
        u /= 2;
        t++;
      }
      while (Math.abs(u) < 1) {
        u *= 2;
        t--;
      }
      p *= u;
      e += t;
      if (Math.abs(p) >= 2) {
        p /= 2;
        e++;
      }
    }
    if (x.method == 3) {
      p *= p;
      e += e;
      if (Math.abs(p) >= 2) {
        p /= 2;
        e++;
      }
    }
    if (x.exchanges % 2 != 0) {
      p = -p;
    }
    return what == 0 ? bits(p) : e;
  }

  // ---- vectors

  int vector(int n) {
    return n < 1 || n > 8 ? NONE : newVector(new double[n]);
  }

  boolean forget(int v) {
    if (v(v) == null) {
      return false;
    }
    vectors[v] = null;
    return true;
  }

  boolean set(int v, int i, long bits) {
    double d = Double.longBitsToDouble(bits);
    if (v(v) == null || i < 0 || i >= v(v).length || !finite(d)) {
      return false;
    }
    v(v)[i] = zero(d);
    return true;
  }

  long value(int v, int i) {
    return v(v) == null || i < 0 || i >= v(v).length ? -1 : bits(v(v)[i]);
  }

  int size(int v) {
    return v(v) == null ? NONE : v(v).length;
  }

  /** The solution, or null. */
  private static double[] solved(F f, double[] r) {
    int n = f.n;
    double[] y = new double[n];
    double[] z = new double[n];
    double[] out = new double[n];
    boolean ok = true;
    for (int i = 0; i < n; i++) {
      double t = r[f.rows[i]];
      for (int k = 0; k < i; k++) {
        t = less(t, f.w[i][k], y[k], f.fused);
        ok &= finite(t);
      }
      y[i] = f.method == 3 ? t / f.w[i][i] : t;
      ok &= finite(y[i]);
    }
    for (int i = n - 1; i >= 0; i--) {
      double t = y[i];
      for (int k = i + 1; k < n; k++) {
        t = less(t, f.method == 3 ? f.w[k][i] : f.w[i][k], z[k], f.fused);
        ok &= finite(t);
      }
      z[i] = t / f.w[i][i];
      ok &= finite(z[i]);
    }
    for (int k = 0; k < n; k++) {
      out[f.columns[k]] = zero(z[k]);
    }
    return ok ? out : null;
  }

  int solve(int f, int r) {
    if (f(f) == null || v(r) == null || v(r).length != f(f).n) {
      return NONE;
    }
    return newVector(solved(f(f), v(r)));
  }

  private static Exact[] residualOf(M m, double[] s, double[] r) {
    Exact[] out = new Exact[m.rows];
    for (int i = 0; i < m.rows; i++) {
      out[i] = Exact.of(r[i]);
      for (int j = 0; j < m.columns; j++) {
        out[i] = out[i].minus(Exact.of(m.v[i][j]).times(Exact.of(s[j])));
      }
    }
    return out;
  }

  private static Exact greatestOf(Exact[] all) {
    Exact most = Exact.ZERO;
    for (Exact e : all) {
      if (e.size().compareTo(most) > 0) {
        most = e.size();
      }
    }
    return most;
  }

  private boolean fits(M m, int s, int r) {
    return m != null && v(s) != null && v(r) != null
        && v(s).length == m.columns && v(r).length == m.rows;
  }

  long residual(int m, int s, int r, int i) {
    if (!fits(m(m), s, r) || i < 0 || i >= m(m).rows) {
      return -1;
    }
    double d = residualOf(m(m), v(s), v(r))[i].nearest();
    return finite(d) ? bits(zero(d)) : -1;
  }

  long greatest(int m, int s, int r) {
    if (!fits(m(m), s, r)) {
      return -1;
    }
    double d = greatestOf(residualOf(m(m), v(s), v(r))).upward();
    return finite(d) ? bits(d) : -1;
  }

  int refine(int m, int f, int s, int r, int rounds) {
    M x = m(m);
    if (!fits(x, s, r) || f(f) == null || x.rows != x.columns || f(f).n != x.rows) {
      return NONE;
    }
    if (rounds < 1 || rounds > 20) {
      return NONE;
    }
    double[] c = v(s).clone();
    int counted = 0;
    while (counted < rounds) {
      double[] next = refinedOnce(x, f(f), c, v(r));
      if (next == null) {
        break;
      }
      c = next;
      counted++;
    }
    vectors[s] = c;
    return counted;
  }

  private static double[] refinedOnce(M x, F f, double[] c, double[] r) {
    Exact[] exact = residualOf(x, c, r);
    double[] rounded = new double[exact.length];
    for (int i = 0; i < rounded.length; i++) {
      rounded[i] = zero(exact[i].nearest());
      if (!finite(rounded[i])) {
        return null;
      }
    }
    double[] d = solved(f, rounded);
    if (d == null) {
      return null;
    }
    double[] next = new double[d.length];
    for (int i = 0; i < d.length; i++) {
      next[i] = zero(c[i] + d[i]);
      if (!finite(next[i])) {
        return null;
      }
    }
    Exact now = greatestOf(residualOf(x, next, r));
    return now.compareTo(greatestOf(exact)) < 0 ? next : null;
  }

  int inverse(int f) {
    F x = f(f);
    if (x == null) {
      return NONE;
    }
    double[][] v = new double[x.n][x.n];
    for (int k = 0; k < x.n; k++) {
      double[] unit = new double[x.n];
      unit[k] = 1;
      double[] column = solved(x, unit);
      if (column == null) {
        return NONE;
      }
      for (int i = 0; i < x.n; i++) {
        v[i][k] = column[i];
      }
    }
    return full(v);
  }

  // ---- exactly

  private static Exact[][] exact(M m, double[] r) {
    Exact[][] e = new Exact[m.rows][m.columns + (r == null ? 0 : 1)];
    for (int i = 0; i < m.rows; i++) {
      for (int j = 0; j < m.columns; j++) {
        e[i][j] = Exact.of(m.v[i][j]);
      }
      if (r != null) {
        e[i][m.columns] = Exact.of(r[i]);
      }
    }
    return e;
  }

  /** Brings e to reduced rows by its first columns; which columns have pivots. */
  private static List<Integer> reduce(Exact[][] e, int columns) {
    List<Integer> pivots = new ArrayList<>();
    for (int c = 0; c < columns; c++) {
      int at = pivots.size();
      int p = at;
      while (p < e.length && e[p][c].sign() == 0) {
        p++;
      }
      if (p >= e.length) {
        continue;
      }
      Exact[] line = e[p];
      e[p] = e[at];
      e[at] = line;
      Exact by = line[c];
      for (int j = 0; j < line.length; j++) {
        line[j] = line[j].over(by);
      }
      for (int i = 0; i < e.length; i++) {
        if (i != at && e[i][c].sign() != 0) {
          Exact times = e[i][c];
          for (int j = 0; j < line.length; j++) {
            e[i][j] = e[i][j].minus(times.times(line[j]));
          }
        }
      }
      pivots.add(c);
    }
    return pivots;
  }

  int exactly(int m, int r) {
    M x = m(m);
    if (x == null || v(r) == null || v(r).length != x.rows || !lattice(x) || !lattice(v(r))) {
      return NONE;
    }
    Exact[][] e = exact(x, v(r));
    int rank = reduce(e, x.columns).size();
    for (int i = rank; i < x.rows; i++) {
      if (e[i][x.columns].sign() != 0) {
        return 0;
      }
    }
    if (rank < x.columns) {
      return 1;
    }
    double[] s = new double[x.columns];
    for (int i = 0; i < s.length; i++) {
      s[i] = e[i][x.columns].nearest();
    }
    int made = newVector(s);
    return made < 0 ? NONE : made + 2;
  }

  int rank(int m) {
    M x = m(m);
    return x == null || !lattice(x) ? NONE : reduce(exact(x, null), x.columns).size();
  }

  int nullVector(int m, int k) {
    M x = m(m);
    if (x == null || !lattice(x) || k < 0) {
      return NONE;
    }
    Exact[][] e = exact(x, null);
    List<Integer> pivots = reduce(e, x.columns);
    List<Integer> others = new ArrayList<>();
    for (int c = 0; c < x.columns; c++) {
      if (!pivots.contains(c)) {
        others.add(c);
      }
    }
    if (k >= others.size()) {
      return NONE;
    }
    double[] s = new double[x.columns];
    s[others.get(k)] = 1;
    for (int i = 0; i < pivots.size(); i++) {
      s[pivots.get(i)] = e[i][others.get(k)].negate().nearest();
    }
    return newVector(s);
  }

  private static Exact determinantOf(M m) {
    return expand(exact(m, null), 0, 0, new Exact[1 << m.rows]);
  }

  /** By rows from i on and the columns not in used: sums of minors, each made once. */
  private static Exact expand(Exact[][] e, int i, int used, Exact[] known) {
    if (i == e.length) {
      return Exact.ONE;
    }
    if (known[used] != null) {
      return known[used];
    }
    Exact all = Exact.ZERO;
    int sign = 1;
    for (int j = 0; j < e.length; j++) {
      if ((used >> j & 1) != 0) {
        continue;
      }
      if (e[i][j].sign() != 0) {
        Exact t = e[i][j].times(expand(e, i + 1, used | 1 << j, known));
        all = sign > 0 ? all.plus(t) : all.minus(t);
      }
      sign = -sign;
    }
    known[used] = all;
    return all;
  }

  private static boolean square(M m) {
    return m != null && m.rows == m.columns;
  }

  long determinant(int m) {
    M x = m(m);
    return !square(x) || !lattice(x) ? -1 : bits(zero(determinantOf(x).nearest()));
  }

  int digits(int m, int k) {
    M x = m(m);
    if (!square(x) || !lattice(x) || k < 0 || k > 27) {
      return 0;
    }
    BigInteger two = BigInteger.ONE.shiftLeft(60 * x.rows);
    Exact d = determinantOf(x).size().times(new Exact(two, BigInteger.ONE));
    return d.up.shiftRight(32 * k).intValue();
  }

  private static Exact norm(Exact[][] e, int from, int to) {
    Exact most = Exact.ZERO;
    for (Exact[] row : e) {
      Exact all = Exact.ZERO;
      for (int j = from; j < to; j++) {
        all = all.plus(row[j].size());
      }
      if (all.compareTo(most) > 0) {
        most = all;
      }
    }
    return most;
  }

  long condition(int m) {
    M x = m(m);
    if (!square(x) || !lattice(x)) {
      return -1;
    }
    int n = x.rows;
    Exact[][] e = exact(x, null);
    Exact own = norm(e, 0, n);
    Exact[][] both = new Exact[n][2 * n];
    for (int i = 0; i < n; i++) {
      for (int j = 0; j < 2 * n; j++) {
        both[i][j] = j < n ? e[i][j] : j - n == i ? Exact.ONE : Exact.ZERO;
      }
    }
    if (reduce(both, n).size() < n) {
      return -1;
    }
    return bits(own.times(norm(both, n, 2 * n)).upward());
  }

  private static double gapOf(M x, M w) {
    int n = x.rows;
    Exact most = Exact.ZERO;
    for (int i = 0; i < n; i++) {
      Exact all = Exact.ZERO;
      for (int j = 0; j < n; j++) {
        Exact lack = i == j ? Exact.ONE : Exact.ZERO;
        for (int k = 0; k < n; k++) {
          lack = lack.minus(Exact.of(x.v[i][k]).times(Exact.of(w.v[k][j])));
        }
        all = all.plus(lack.size());
      }
      if (all.compareTo(most) > 0) {
        most = all;
      }
    }
    return most.upward();
  }

  long gap(int x, int w) {
    M p = m(x);
    M q = m(w);
    if (!square(p) || !square(q) || p.rows != q.rows || !lattice(q)) {
      return -1;
    }
    double g = gapOf(p, q);
    return finite(g) ? bits(g) : -1;
  }

  long bound(int x, int w, int s, int r) {
    M p = m(x);
    M q = m(w);
    if (!square(p) || !square(q) || p.rows != q.rows || !lattice(q) || !fits(q, s, r)) {
      return -1;
    }
    double g = gapOf(p, q);
    if (!(g < 1)) {
      return bits(-1.0);
    }
    double most = 0;
    for (double[] row : p.v) {
      double t = 0;
      for (double d : row) {
        t = Math.nextUp(t + Math.abs(d));
      }
      most = Math.max(most, t);
    }
    double greatest = greatestOf(residualOf(q, v(s), v(r))).upward();
    double d = Math.nextDown(1 - g);
    if (!finite(most) || !finite(greatest)) {
      return bits(-1.0);
    }
    double b = Math.nextUp(most * greatest);
    double bound = Math.nextUp(b / d);
    return bits(finite(b) && finite(bound) ? bound : -1.0);
  }

  int reorder(int m) {
    M x = m(m);
    if (!square(x) || free(matrices) < 0) {
      return NONE;
    }
    int n = x.rows;
    List<List<Integer>> near = new ArrayList<>();
    for (int i = 0; i < n; i++) {
      near.add(new ArrayList<>());
      for (int j = 0; j < n; j++) {
        if (i != j && (x.v[i][j] != 0 || x.v[j][i] != 0)) {
          near.get(i).add(j);
        }
      }
    }
    List<Integer> row = new ArrayList<>();
    while (row.size() < n) {
      int first = -1;
      for (int i = 0; i < n; i++) {
        if (!row.contains(i) && (first < 0 || near.get(i).size() < near.get(first).size())) {
          first = i;
        }
      }
      int going = row.size();
      row.add(first);
      for (; going < row.size(); going++) {
        List<Integer> next = new ArrayList<>(near.get(row.get(going)));
        next.removeAll(row);
        next.sort((p, q) -> near.get(p).size() - near.get(q).size());
        row.addAll(next);
      }
    }
    int[] turned = new int[n];
    for (int k = 0; k < n; k++) {
      turned[k] = row.get(n - 1 - k);
    }
    double[][] v = permuted(x, turned);
    if (width(v) > width(x.v)) {
      for (int k = 0; k < n; k++) {
        turned[k] = k;
      }
      v = permuted(x, turned);
    }
    order = turned;
    return full(v);
  }

  private static double[][] permuted(M x, int[] p) {
    double[][] v = new double[p.length][p.length];
    for (int i = 0; i < p.length; i++) {
      for (int j = 0; j < p.length; j++) {
        v[i][j] = x.v[p[i]][p[j]];
      }
    }
    return v;
  }

  int place(int k) {
    return k < 0 || k >= order.length ? NONE : order[k];
  }

  // ---- bytes

  static int[] packedOf(M m) {
    List<Integer> out = new ArrayList<>(List.of(77, m.form, m.rows, m.columns, m.a, m.b));
    if (m.form == 3) {
      out.add(filled(m));
    }
    for (int i = 0; i < m.rows; i++) {
      for (int j = 0; j < m.columns; j++) {
        if (m.form == 3 ? m.v[i][j] == 0 : !place(m, i, j)) {
          continue;
        }
        if (m.form == 3) {
          out.add(i);
          out.add(j);
        }
        for (int k = 7; k >= 0; k--) {
          out.add((int) (bits(m.v[i][j]) >> 8 * k) & 255);
        }
      }
    }
    int c = 1;
    for (int b : out) {
      c = (31 * c + b) % 65521;
    }
    out.add(c / 256);
    out.add(c % 256);
    return out.stream().mapToInt(Integer::intValue).toArray();
  }

  int pack(int m) {
    if (m(m) == null) {
      return NONE;
    }
    packed = packedOf(m(m));
    return packed.length;
  }

  int octet(int i) {
    return i < 0 || i >= packed.length ? NONE : packed[i];
  }

  int feed(int a, int b, int c, int d, int e) {
    if (tape.size() > 580) {
      return NONE;
    }
    for (int x : new int[] {a, b, c, d, e}) {
      for (int k = 3; k >= 0; k--) {
        tape.add(x >> 8 * k & 255);
      }
    }
    return tape.size();
  }

  boolean end(int n) {
    if (n < 0 || n > tape.size()) {
      return false;
    }
    tape = new ArrayList<>(tape.subList(0, n));
    return true;
  }

  int take() {
    tape = new ArrayList<>();
    for (int b : packed) {
      tape.add(b);
    }
    return tape.size();
  }

  /** Reads as freely as can be, then asks that the same bytes come of it. */
  private static M read(int[] t) {
    if (t.length < 8) {
      return null;
    }
    M m = blank(t[1], t[2], t[3], t[4], t[5]);
    if (m == null) {
      return null;
    }
    int at = m.form == 3 ? 7 : 6;
    for (int i = 0; i < m.rows && m.form != 3; i++) {
      for (int j = 0; j < m.columns; j++) {
        if (place(m, i, j) && at + 8 <= t.length) {
          m.v[i][j] = number(t, at);
          at += 8;
        }
      }
    }
    while (m.form == 3 && at + 10 <= t.length) {
      if (t[at] >= m.rows || t[at + 1] >= m.columns) {
        return null;
      }
      m.v[t[at]][t[at + 1]] = number(t, at + 2);
      at += 10;
    }
    if (m.form == 3 && filled(m) > 20) {
      return null;
    }
    for (double[] row : m.v) {
      for (double d : row) {
        if (!finite(d) || bits(d) == bits(-0.0)) {
          return null;
        }
      }
    }
    return Arrays.equals(packedOf(m), t) ? m : null;
  }

  private static double number(int[] t, int at) {
    long bits = 0;
    for (int k = 0; k < 8; k++) {
      bits = bits * 256 + t[at + k];
    }
    return Double.longBitsToDouble(bits);
  }

  int unpack() {
    int[] t = tape.stream().mapToInt(Integer::intValue).toArray();
    tape = new ArrayList<>();
    M m = read(t);
    int free = free(matrices);
    if (m == null || free < 0) {
      return NONE;
    }
    matrices[free] = m;
    return free;
  }

  int count(int what) {
    switch (what) {
      case 0:
        return count(matrices);
      case 1:
        return count(factors);
      case 2:
        return count((Object[]) vectors);
      case 3:
        return tape.size();
      default:
        return NONE;
    }
  }
}
