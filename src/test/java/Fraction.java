import java.math.BigInteger;

/** An exact fraction in lowest terms, with a denominator above 0. */
final class Fraction {
    final BigInteger top;
    final BigInteger bottom;

    Fraction(BigInteger top, BigInteger bottom) {
        BigInteger common = top.gcd(bottom).multiply(BigInteger.valueOf(bottom.signum()));
        this.top = top.divide(common);
        this.bottom = bottom.divide(common);
    }

    static Fraction of(long v) {
        return new Fraction(BigInteger.valueOf(v), BigInteger.ONE);
    }

    Fraction plus(Fraction o) {
        return new Fraction(top.multiply(o.bottom).add(o.top.multiply(bottom)), bottom.multiply(o.bottom));
    }

    Fraction times(Fraction o) {
        return new Fraction(top.multiply(o.top), bottom.multiply(o.bottom));
    }

    Fraction over(Fraction o) {
        return new Fraction(top.multiply(o.bottom), bottom.multiply(o.top));
    }

    /** The next whole number, of two the greater one. */
    long nearest() {
        BigInteger[] parts = top.shiftLeft(1).add(bottom).divideAndRemainder(bottom.shiftLeft(1));
        return parts[0].longValueExact() - (parts[1].signum() < 0 ? 1 : 0);
    }

    /** Solves rows that have one solution: the last column becomes it. */
    static void eliminate(Fraction[][] a) {
        for (int c = 0; c < a.length; c++) {
            int pivot = c;
            while (a[pivot][c].top.signum() == 0) {
                pivot++;
            }
            Fraction[] swapped = a[c];
            a[c] = a[pivot];
            a[pivot] = swapped;
            Fraction by = a[c][c];
            for (int j = 0; j <= a.length; j++) {
                a[c][j] = a[c][j].over(by);
            }
            for (int r = 0; r < a.length; r++) {
                if (r != c) {
                    Fraction times = a[r][c].times(of(-1));
                    for (int j = 0; j <= a.length; j++) {
                        a[r][j] = a[r][j].plus(a[c][j].times(times));
                    }
                }
            }
        }
    }
}
