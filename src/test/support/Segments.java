import java.math.BigInteger;

/** Straight rows of points, each told as the x and y of its ends, in any direction; all is exact. */
final class Segments {
    private Segments() {
    }

    /** Whether two of them, in planes that far apart, come nearer than the half of a number. */
    static boolean nearer(long[] a, long[] b, long height, long twice) {
        if (cross(a, b)) {
            return 2 * Math.abs(height) < twice;
        }
        return pointNearer(a[0], a[1], b, height, twice) || pointNearer(a[2], a[3], b, height, twice)
                || pointNearer(b[0], b[1], a, height, twice) || pointNearer(b[2], b[3], a, height, twice);
    }

    private static boolean cross(long[] a, long[] b) {
        return side(a, b[0], b[1]) * side(a, b[2], b[3]) < 0 && side(b, a[0], a[1]) * side(b, a[2], a[3]) < 0;
    }

    private static int side(long[] of, long x, long y) {
        return Long.signum((of[2] - of[0]) * (y - of[1]) - (of[3] - of[1]) * (x - of[0]));
    }

    private static boolean pointNearer(long x, long y, long[] to, long height, long twice) {
        long alongX = to[2] - to[0];
        long alongY = to[3] - to[1];
        long square = alongX * alongX + alongY * alongY;
        long foot = (x - to[0]) * alongX + (y - to[1]) * alongY;
        if (foot <= 0) {
            return isLess(squareOf(x - to[0]).add(squareOf(y - to[1])), 1, height, twice);
        }
        if (foot >= square) {
            return isLess(squareOf(x - to[2]).add(squareOf(y - to[3])), 1, height, twice);
        }
        return isLess(squareOf((x - to[0]) * alongY - (y - to[1]) * alongX), square, height, twice);
    }

    /** Whether flat / by + height squared is less than the square of the half of a number. */
    private static boolean isLess(BigInteger flat, long by, long height, long twice) {
        BigInteger high = squareOf(height).multiply(BigInteger.valueOf(by));
        BigInteger limit = squareOf(twice).multiply(BigInteger.valueOf(by));
        return flat.add(high).multiply(BigInteger.valueOf(4)).compareTo(limit) < 0;
    }

    private static BigInteger squareOf(long number) {
        return BigInteger.valueOf(number).pow(2);
    }
}
