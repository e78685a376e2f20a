import java.lang.management.ManagementFactory;

/** No call makes an object or an array: all room stands from the start on, and is small. */
public final class RoomTest {
  private static final int MOST_BYTES_OF_AN_OBJECT = 200_000;
  private static final int ROUNDS = 40;

  public static void main(String[] args) {
    com.sun.management.ThreadMXBean memory =
        (com.sun.management.ThreadMXBean) ManagementFactory.getThreadMXBean();
    long id = Thread.currentThread().getId();
    SystemLab warm = new SystemLab();
    calls(warm);
    memory.getThreadAllocatedBytes(id);
    long before = memory.getThreadAllocatedBytes(id);
    SystemLab x = new SystemLab();
    long made = memory.getThreadAllocatedBytes(id);
    for (int k = 0; k < ROUNDS; k++) {
      calls(x);
    }
    long after = memory.getThreadAllocatedBytes(id);
    Due.is("an object takes " + (made - before) + " bytes, few", made - before < MOST_BYTES_OF_AN_OBJECT, true);
    // the machine's own compiling and measuring may take a little of the thread
    Due.is("calls take " + (after - made) + " bytes, none", after - made < 50 * ROUNDS, true);
    Due.end("RoomTest");
  }

  /** Calls of all kinds, that leave the object as it was. */
  private static void calls(SystemLab x) {
    int m = x.matrix(0, 8, 8, 0, 0);
    int s = x.vector(8);
    int r = x.vector(8);
    for (int i = 0; i < 8; i++) {
      for (int j = 0; j < 8; j++) {
        x.put(m, i, j, Due.bits(i == j ? 9.5 : 1.0 / (i + j + 1)));
      }
      x.set(r, i, Due.bits(i));
    }
    for (int method = 0; method < 4; method++) {
      int f = x.factor(m, method, method % 2 == 0);
      x.growth(f);
      x.pivots(f, 0);
      int v = x.solve(f, r);
      x.forget(v);
      x.refine(m, f, s, r, 20);
      int inverse = x.inverse(f);
      x.gap(inverse, m);
      x.bound(inverse, m, s, r);
      x.drop(inverse);
      x.release(f);
    }
    x.residual(m, s, r, 3);
    x.greatest(m, s, r);
    x.forget(x.exactly(m, r) - 2);
    x.rank(m);
    x.nullVector(m, 0);
    x.determinant(m);
    x.digits(m, 3);
    x.condition(m);
    x.drop(x.reorder(m));
    x.drop(x.sum(m, m));
    x.drop(x.product(m, m, true));
    x.drop(x.transpose(m));
    x.drop(x.formed(m, 4, 2, 2));
    x.drop(x.block(m, 1, 1, 3, 3));
    x.same(m, m);
    x.pack(m);
    x.take();
    x.drop(x.unpack());
    x.feed(1, 2, 3, 4, 5);
    x.end(0);
    x.drop(m);
    x.forget(s);
    x.forget(r);
  }
}
