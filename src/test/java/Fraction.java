import java.math.BigInteger;

/** An exact fraction in least terms, the denominator above 0. */
final class Fraction implements Comparable<Fraction> {
    static final Fraction ZERO = of(0);
    static final Fraction ONE = of(1);

    final BigInteger top;
    final BigInteger bottom;

    private Fraction(BigInteger top, BigInteger bottom) {
        BigInteger common = top.gcd(bottom);
        if (bottom.signum() < 0) {
            common = common.negate();
        }
        this.top = top.divide(common);
        this.bottom = bottom.divide(common);
    }

    static Fraction of(long whole) {
        return new Fraction(BigInteger.valueOf(whole), BigInteger.ONE);
    }

    Fraction plus(Fraction that) {
        return new Fraction(top.multiply(that.bottom).add(that.top.multiply(bottom)), bottom.multiply(that.bottom));
    }

    Fraction minus(Fraction that) {
        return plus(that.times(of(-1)));
    }

    Fraction times(Fraction that) {
        return new Fraction(top.multiply(that.top), bottom.multiply(that.bottom));
    }

    Fraction by(Fraction that) {
        return new Fraction(top.multiply(that.bottom), bottom.multiply(that.top));
    }

    boolean isZero() {
        return top.signum() == 0;
    }

    @Override
    public int compareTo(Fraction that) {
        return top.multiply(that.bottom).compareTo(that.top.multiply(bottom));
    }

    long part(int what) {
        return (what == 0 ? top : bottom).longValueExact();
    }
}
