import java.math.BigInteger;

/** The document's arithmetic by big integers, which neither go round nor share the class's way to reckon. */
final class Reckon {
    private static final BigInteger ROUND = BigInteger.ONE.shiftLeft(64);
    private static final BigInteger FACTOR = new BigInteger("1099511628211");

    private Reckon() {
    }

    private static BigInteger unsigned(long x) {
        return BigInteger.valueOf(x).mod(ROUND);
    }

    static long digest(long from, long... row) {
        BigInteger d = unsigned(from);
        for (long x : row) {
            d = d.xor(unsigned(x)).multiply(FACTOR).mod(ROUND);
        }
        return d.longValue();
    }

    static int pow(long base, long exponent, int modulus) {
        return BigInteger.valueOf(base).modPow(BigInteger.valueOf(exponent), BigInteger.valueOf(modulus)).intValue();
    }

    static int times(int a, int b, int modulus) {
        return BigInteger.valueOf(a).multiply(BigInteger.valueOf(b)).mod(BigInteger.valueOf(modulus)).intValue();
    }

    static boolean isPrime(int n) {
        return n > 1 && BigInteger.valueOf(n).isProbablePrime(40);
    }

    static boolean isSafePrime(int p) {
        return p % 2 == 1 && isPrime(p) && isPrime((p - 1) / 2);
    }

    /** A ballot for a mark, made with an exponent: part 0 or 1. */
    static int ballot(int mark, int key, int r, int part, int p) {
        return part == 0 ? pow(4, r, p) : times(mark, pow(key, r, p), p);
    }
}
