import java.math.BigInteger;

/** A fraction in lowest terms, for the reference alone. */
final class Fraction implements Comparable<Fraction> {
    static final Fraction ZERO = of(0);
    static final Fraction ONE = of(1);

    final BigInteger above;
    final BigInteger below;

    private Fraction(BigInteger above, BigInteger below) {
        BigInteger common = above.gcd(below);
        if (below.signum() < 0) {
            common = common.negate();
        }
        this.above = above.divide(common);
        this.below = below.divide(common);
    }

    static Fraction of(long n) {
        return of(n, 1);
    }

    static Fraction of(long above, long below) {
        return new Fraction(BigInteger.valueOf(above), BigInteger.valueOf(below));
    }

    Fraction plus(Fraction o) {
        return new Fraction(above.multiply(o.below).add(o.above.multiply(below)), below.multiply(o.below));
    }

    Fraction minus(Fraction o) {
        return plus(o.times(of(-1)));
    }

    Fraction times(Fraction o) {
        return new Fraction(above.multiply(o.above), below.multiply(o.below));
    }

    Fraction over(Fraction o) {
        return new Fraction(above.multiply(o.below), below.multiply(o.above));
    }

    Fraction size() {
        return new Fraction(above.abs(), below);
    }

    int sign() {
        return above.signum();
    }

    @Override
    public int compareTo(Fraction o) {
        return above.multiply(o.below).compareTo(o.above.multiply(below));
    }

    boolean is(Fraction o) {
        return compareTo(o) == 0;
    }
}
