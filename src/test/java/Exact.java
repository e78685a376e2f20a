import java.math.BigDecimal;
import java.math.BigInteger;
import java.math.MathContext;

/** A fraction of whole numbers, for the model: exact, and rounded by trying the doubles round about. */
final class Exact implements Comparable<Exact> {
  static final Exact ZERO = new Exact(BigInteger.ZERO, BigInteger.ONE);
  static final Exact ONE = new Exact(BigInteger.ONE, BigInteger.ONE);

  final BigInteger up;
  final BigInteger down;

  Exact(BigInteger up, BigInteger down) {
    BigInteger g = up.gcd(down);
    if (down.signum() < 0) {
      g = g.negate();
    }
    this.up = up.divide(g);
    this.down = down.divide(g);
  }

  static Exact of(double d) {
    BigDecimal exact = new BigDecimal(d);
    BigInteger whole = exact.unscaledValue();
    return exact.scale() >= 0
        ? new Exact(whole, BigInteger.TEN.pow(exact.scale()))
        : new Exact(whole.multiply(BigInteger.TEN.pow(-exact.scale())), BigInteger.ONE);
  }

  Exact plus(Exact o) {
    return new Exact(up.multiply(o.down).add(o.up.multiply(down)), down.multiply(o.down));
  }

  Exact negate() {
    return new Exact(up.negate(), down);
  }

  Exact minus(Exact o) {
    return plus(o.negate());
  }

  Exact times(Exact o) {
    return new Exact(up.multiply(o.up), down.multiply(o.down));
  }

  Exact over(Exact o) {
    return new Exact(up.multiply(o.down), down.multiply(o.up));
  }

  Exact size() {
    return new Exact(up.abs(), down);
  }

  int sign() {
    return up.signum();
  }

  @Override
  public int compareTo(Exact o) {
    return up.multiply(o.down).compareTo(o.up.multiply(down));
  }

  private double guess() {
    double d = new BigDecimal(up).divide(new BigDecimal(down), new MathContext(60)).doubleValue();
    return Math.max(-Double.MAX_VALUE, Math.min(Double.MAX_VALUE, d));
  }

  /** The nearest double, of two as near the even one; infinite from half a step beyond the last. */
  double nearest() {
    if (sign() < 0) {
      return -negate().nearest();
    }
    if (sign() == 0) {
      return 0;
    }
    Exact step = of(Math.ulp(Double.MAX_VALUE)).over(of(2));
    if (compareTo(of(Double.MAX_VALUE).plus(step)) >= 0) {
      return Double.POSITIVE_INFINITY;
    }
    double best = guess();
    for (double d : new double[] {Math.nextDown(guess()), Math.nextUp(guess())}) {
      if (Double.isInfinite(d)) {
        continue;
      }
      int nearer = of(d).minus(this).size().compareTo(of(best).minus(this).size());
      boolean even = (Double.doubleToLongBits(d) & 1) == 0;
      if (nearer < 0 || nearer == 0 && even) {
        best = d;
      }
    }
    return best;
  }

  /** The least double not below this, which is not below 0. */
  double upward() {
    if (sign() == 0) {
      return 0;
    }
    double d = guess();
    while (d > 0 && of(d).compareTo(this) >= 0) {
      d = Math.nextDown(d);
    }
    while (of(d).compareTo(this) < 0) {
      d = Math.nextUp(d);
      if (Double.isInfinite(d)) {
        return d;
      }
    }
    return d;
  }
}
