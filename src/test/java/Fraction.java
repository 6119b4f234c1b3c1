import java.math.BigInteger;

/** An exact fraction for the tests, in least terms, its lower side above 0. */
final class Fraction implements Comparable<Fraction> {
    static final Fraction ZERO = of(0);

    final BigInteger above;
    final BigInteger below;

    private Fraction(BigInteger above, BigInteger below) {
        BigInteger common = above.gcd(below).multiply(BigInteger.valueOf(below.signum()));
        this.above = above.divide(common);
        this.below = below.divide(common);
    }

    static Fraction of(long number) {
        return new Fraction(BigInteger.valueOf(number), BigInteger.ONE);
    }

    static Fraction of(long above, long below) {
        return new Fraction(BigInteger.valueOf(above), BigInteger.valueOf(below));
    }

    Fraction plus(Fraction o) {
        return new Fraction(above.multiply(o.below).add(o.above.multiply(below)), below.multiply(o.below));
    }

    Fraction minus(Fraction o) {
        return new Fraction(above.multiply(o.below).subtract(o.above.multiply(below)), below.multiply(o.below));
    }

    Fraction times(Fraction o) {
        return new Fraction(above.multiply(o.above), below.multiply(o.below));
    }

    Fraction over(Fraction o) {
        return new Fraction(above.multiply(o.below), below.multiply(o.above));
    }

    boolean isZero() {
        return above.signum() == 0;
    }

    long side(boolean upper) {
        return (upper ? above : below).longValueExact();
    }

    @Override
    public int compareTo(Fraction o) {
        return above.multiply(o.below).compareTo(o.above.multiply(below));
    }
}
