import java.math.BigInteger;

/** Promises 4 to 7 and 17 to 21: rules, lines, legs, lengths, laps, weights, tags, differences, order. */
public final class ListTest {
    private static final Check CHECK = new Check("ListTest");
    private static final long[] FAR = {Long.MIN_VALUE, Integer.MIN_VALUE, Integer.MAX_VALUE,
        Long.MAX_VALUE, 1L << 32, (1L << 32) + 10};

    public static void main(String[] args) {
        rules();
        bars();
        mostLines();
        legs();
        lengths();
        laps();
        lapsAgainstCounting();
        weights();
        tags();
        differences();
        bendingOrder();
        CHECK.end();
    }

    private static void rules() {
        BarCutting x = new BarCutting();
        int line = Maker.line(x, Maker.shape(x, "ALBUC"), 4, 1, 1000, 1000, 1000);
        int thick = Maker.line(x, 0, 40, 1, 1000, 1000, 1000);
        CHECK.due("no rule", x.length(line, 0), 3000);
        CHECK.due("rule(3, 1)", x.rule(3, 1), false);
        CHECK.due("rule(41, 1)", x.rule(41, 1), false);
        CHECK.due("rule(4, -1)", x.rule(4, -1), false);
        CHECK.due("rule(4, 501)", x.rule(4, 501), false);
        for (long far : FAR) {
            CHECK.due("rule(4, " + far + ")", x.rule(4, far), false);
            CHECK.due("rule((int) " + far + ", 1)", x.rule((int) far, 1), (int) far == 10);
        }
        CHECK.due("wrong rules change nothing", x.length(line, 0), 3000);
        CHECK.due("rule(4, 500)", x.rule(4, 500), true);
        CHECK.due("three quarters", x.length(line, 0), 1500);
        CHECK.due("another diameter", x.length(thick, 0), 3000);
        CHECK.due("rule(40, 1)", x.rule(40, 1), true);
        CHECK.due("the greatest diameter", x.length(thick, 0), 2997);
        CHECK.due("rule(4, 0)", x.rule(4, 0), true);
        CHECK.due("a rule of 0 again", x.length(line, 0), 3000);
    }

    private static void bars() {
        BarCutting x = new BarCutting();
        CHECK.due("no shape yet", x.bar(0, 10, 1), -1);
        Maker.shape(x, "A");
        CHECK.due("bar(-1, 10, 1)", x.bar(-1, 10, 1), -1);
        CHECK.due("bar(1, 10, 1)", x.bar(1, 10, 1), -1);
        CHECK.due("bar(0, 3, 1)", x.bar(0, 3, 1), -1);
        CHECK.due("bar(0, 41, 1)", x.bar(0, 41, 1), -1);
        CHECK.due("bar(0, 10, 0)", x.bar(0, 10, 0), -1);
        CHECK.due("bar(0, 10, 6)", x.bar(0, 10, 6), -1);
        CHECK.due("bar(0, 10, -1)", x.bar(0, 10, -1), -1);
        CHECK.due("wrong ones are no lines", x.length(0, 1), -1);
        CHECK.due("bar(0, 4, 1)", x.bar(0, 4, 1), 0);
        CHECK.due("bar(0, 40, 5)", x.bar(0, 40, 5), 1);
        CHECK.due("number of line 0", x.length(0, 1), 1);
        CHECK.due("number of line 1", x.length(1, 1), 5);
    }

    private static void mostLines() {
        BarCutting x = new BarCutting();
        Maker.shape(x, "A");
        for (int i = 0; i < 12; i++) {
            CHECK.due("bar " + i, x.bar(0, 4 + i, 1), i);
        }
        CHECK.due("a thirteenth", x.bar(0, 4, 1), -1);
        CHECK.due("the last line", x.length(11, 3), 15);
        CHECK.due("no line behind it", x.length(12, 3), -1);
    }

    private static void legs() {
        BarCutting x = new BarCutting();
        int line = x.bar(Maker.shape(x, "ALB"), 10, 1);
        CHECK.due("leg 0 of 0", x.leg(line, 0, 0), false);
        CHECK.due("leg 0 of -1", x.leg(line, 0, -1), false);
        CHECK.due("leg 0 of 20001", x.leg(line, 0, 20001), false);
        CHECK.due("leg -1", x.leg(line, -1, 10), false);
        CHECK.due("leg 2 of two", x.leg(line, 2, 10), false);
        CHECK.due("leg 5 of two", x.leg(line, 5, 10), false);
        CHECK.due("leg 6", x.leg(line, 6, 10), false);
        CHECK.due("line -1", x.leg(-1, 0, 10), false);
        CHECK.due("line 1", x.leg(1, 0, 10), false);
        for (long far : FAR) {
            CHECK.due("leg of " + far, x.leg(line, 0, far), false);
        }
        CHECK.due("nothing was told", x.length(line, 2), 0);
        CHECK.due("leg 0 of 1", x.leg(line, 0, 1), true);
        CHECK.due("leg 1 of 20000", x.leg(line, 1, 20000), true);
        CHECK.due("sum", x.length(line, 2), 20001);
        CHECK.due("leg 1 again", x.leg(line, 1, 5), true);
        CHECK.due("sum again", x.length(line, 2), 6);
    }

    private static void lengths() {
        BarCutting x = new BarCutting();
        Maker.shape(x, "A");
        int u = Maker.shape(x, "AUBLCRD");
        int line = Maker.line(x, u, 12, 3, 100, 200, 300, 400);
        int straight = Maker.line(x, 0, 12, 2, 77);
        x.rule(12, 30);
        CHECK.due("length", x.length(line, 0), 1000 - 4 * 30);
        CHECK.due("number", x.length(line, 1), 3);
        CHECK.due("sum of legs", x.length(line, 2), 1000);
        CHECK.due("diameter", x.length(line, 3), 12);
        CHECK.due("shape", x.length(line, 4), 1);
        CHECK.due("part 5", x.length(line, 5), -1);
        CHECK.due("part -1", x.length(line, -1), -1);
        CHECK.due("line 2", x.length(2, 0), -1);
        CHECK.due("line -1", x.length(-1, 0), -1);
        CHECK.due("without bends", x.length(straight, 0), 77);
        x.rule(12, 250);
        CHECK.due("just nothing", x.length(line, 0), 0);
        x.rule(12, 249);
        CHECK.due("just something", x.length(line, 0), 4);
        x.rule(12, 251);
        CHECK.due("not below 0", x.length(line, 0), 0);
        int most = Maker.line(x, Maker.shape(x, "ALBLCLDLELF"), 4, 5, 20000, 20000, 20000, 20000, 20000, 20000);
        CHECK.due("the longest", x.length(most, 0), 120000);
    }

    private static void laps() {
        BarCutting x = new BarCutting();
        int line = Maker.line(x, Maker.shape(x, "ALB"), 10, 2, 1000, 1500);
        CHECK.due("no stock", x.lap(line, 0), -1);
        x.stock(11, 5000, 5);
        CHECK.due("stock of another diameter", x.lap(line, 0), -1);
        x.stock(10, 600, 3);
        CHECK.due("five bars of 600", x.lap(line, 0), 4);
        x.stock(10, 1000, 0);
        x.stock(10, 800, 20);
        CHECK.due("the greatest counts, though none is there", x.lap(line, 0), 2);
        CHECK.due("lap(250): just enough", x.lap(line, 250), 2);
        CHECK.due("lap(251): just not", x.lap(line, 251), 3);
        CHECK.due("lap(999)", x.lap(line, 999), 1500);
        CHECK.due("lap(1000)", x.lap(line, 1000), -1);
        CHECK.due("lap(1001)", x.lap(line, 1001), -1);
        CHECK.due("lap(-1)", x.lap(line, -1), -1);
        CHECK.due("line 1", x.lap(1, 0), -1);
        CHECK.due("line -1", x.lap(-1, 0), -1);
        x.rule(10, 500);
        CHECK.due("its LENGTH counts", x.lap(line, 0), 1);
        int thick = Maker.line(x, 0, 40, 1, 20000, 20000);
        x.stock(40, 30000, 1);
        CHECK.due("lap(5000)", x.lap(thick, 5000), 1);
        CHECK.due("lap(5001)", x.lap(thick, 5001), -1);
        for (long far : FAR) {
            CHECK.due("lap(" + far + ")", x.lap(thick, far), -1);
        }
        int untold = x.bar(0, 40, 1);
        CHECK.due("a length of 0", x.lap(untold, 0), 0);
        x.leg(untold, 0, 20000);
        x.leg(untold, 1, 10000);
        CHECK.due("as long as the stock", x.lap(untold, 0), 0);
        x.leg(untold, 1, 10001);
        CHECK.due("one longer", x.lap(untold, 0), 1);
    }

    private static void lapsAgainstCounting() {
        for (int stock = 1; stock < 40; stock++) {
            BarCutting x = new BarCutting();
            int line = Maker.line(x, Maker.shape(x, "A"), 10, 1, 1);
            x.stock(10, stock, 0);
            for (int length = 1; length < 60; length += 7) {
                x.leg(line, 0, length);
                for (int lap = 0; lap < 50; lap += 3) {
                    CHECK.due("lap " + lap + " of " + length + " by " + stock, x.lap(line, lap),
                            countLaps(length, stock, lap));
                }
            }
        }
    }

    private static long countLaps(int length, int stock, int lap) {
        if (lap >= stock) {
            return -1;
        }
        int laps = 0;
        while ((laps + 1) * stock - laps * lap < length) {
            laps++;
        }
        return laps;
    }

    private static void weights() {
        BarCutting x = new BarCutting();
        int line = Maker.line(x, Maker.shape(x, "ALB"), 10, 3, 1000, 2000);
        CHECK.due("upper", x.weight(line, 0), 50000);
        CHECK.due("lower", x.weight(line, 1), 9);
        CHECK.due("part 2", x.weight(line, 2), -1);
        CHECK.due("part -1", x.weight(line, -1), -1);
        CHECK.due("line 1", x.weight(1, 0), -1);
        CHECK.due("line -1", x.weight(-1, 1), -1);
        x.rule(10, 1);
        CHECK.due("its LENGTH counts", x.weight(line, 0), 149950);
        CHECK.due("its LENGTH counts, lower", x.weight(line, 1), 27);
        int nothing = x.bar(0, 7, 1);
        CHECK.due("nothing: upper", x.weight(nothing, 0), 0);
        CHECK.due("nothing: lower", x.weight(nothing, 1), 1);
        for (int diameter = 4; diameter <= 40; diameter++) {
            for (int n = 1; n <= 5; n += 4) {
                weightAgainstBig(diameter, n, 20000 - diameter * 431L);
                weightAgainstBig(diameter, n, 81L * diameter);
            }
        }
        BarCutting y = new BarCutting();
        int most = Maker.line(y, Maker.shape(y, "ALBLCLDLELF"), 40, 5, 20000, 20000, 20000, 20000, 20000, 20000);
        CHECK.due("the heaviest", y.weight(most, 0), 160000000L);
        CHECK.due("the heaviest, lower", y.weight(most, 1), 27);
    }

    private static void weightAgainstBig(int diameter, int n, long length) {
        BarCutting x = new BarCutting();
        int line = Maker.line(x, Maker.shape(x, "A"), diameter, n, length);
        BigInteger upper = BigInteger.valueOf((long) diameter * diameter * length * n);
        BigInteger lower = BigInteger.valueOf(162);
        BigInteger common = upper.gcd(lower);
        String bar = n + " of " + diameter + " by " + length;
        CHECK.due("upper of " + bar, x.weight(line, 0), upper.divide(common).longValue());
        CHECK.due("lower of " + bar, x.weight(line, 1), lower.divide(common).longValue());
    }

    private static void tags() {
        BarCutting x = new BarCutting();
        int a = Maker.shape(x, "ALB");
        int b = Maker.shape(x, "A");
        int c = Maker.shape(x, "AUBRCLDUERF");
        dueTag(x, x.bar(a, 12, 3), "3x12:ALB");
        dueTag(x, x.bar(b, 4, 1), "1x4:A");
        dueTag(x, x.bar(c, 40, 5), "5x40:AUBRCLDUERF");
        dueTag(x, x.bar(a, 9, 2), "2x9:ALB");
        dueTag(x, x.bar(a, 10, 4), "4x10:ALB");
        CHECK.due("tag(-1, 0)", x.tag(-1, 0), -1);
        CHECK.due("tag(5, 0)", x.tag(5, 0), -1);
        CHECK.due("tag(0, -1)", x.tag(0, -1), -1);
        CHECK.due("tag(0, min)", x.tag(0, Integer.MIN_VALUE), -1);
        CHECK.due("tag(0, max)", x.tag(0, Integer.MAX_VALUE), -1);
    }

    private static void dueTag(BarCutting x, int line, String want) {
        for (int i = 0; i < want.length(); i++) {
            CHECK.due("sign " + i + " of " + want, x.tag(line, i), want.charAt(i));
        }
        CHECK.due("behind " + want, x.tag(line, want.length()), -1);
    }

    private static void differences() {
        BarCutting x = new BarCutting();
        int a = Maker.shape(x, "ALBRC");
        int same = Maker.shape(x, "ALBRC");
        int shorter = Maker.shape(x, "A");
        Maker.line(x, a, 10, 1, 5, 6, 7);
        Maker.line(x, a, 10, 1, 5, 6, 7);
        Maker.line(x, same, 10, 1, 5, 6, 7);
        Maker.line(x, shorter, 12, 2, 5);
        Maker.line(x, a, 10, 1, 5, 6, 8);
        Maker.line(x, Maker.shape(x, "ALBLCLDLELF"), 12, 2, 9, 9, 9, 9, 9, 9);
        dueDifferences(x, 0, 1);
        dueDifferences(x, 0, 0);
        dueDifferences(x, 0, 2, 0);
        dueDifferences(x, 0, 3, 0, 1, 2, 4, 5);
        dueDifferences(x, 0, 4, 5);
        dueDifferences(x, 3, 5, 0, 3, 4, 5, 6, 7, 8);
        dueDifferences(x, 0, 5, 0, 1, 2, 3, 4, 5, 6, 7, 8);
        CHECK.due("differs(0, 3, -1)", x.differs(0, 3, -1), -1);
        CHECK.due("differs(0, 3, max)", x.differs(0, 3, Integer.MAX_VALUE), -1);
        CHECK.due("differs(0, 6, 0)", x.differs(0, 6, 0), -1);
        CHECK.due("differs(6, 0, 0)", x.differs(6, 0, 0), -1);
        CHECK.due("differs(-1, 0, 0)", x.differs(-1, 0, 0), -1);
        CHECK.due("differs(0, -1, 0)", x.differs(0, -1, 0), -1);
        int untold = x.bar(a, 10, 1);
        dueDifferences(x, 0, untold, 3, 4, 5);
        int untoldShort = x.bar(shorter, 10, 1);
        dueDifferences(x, untold, untoldShort, 0);
    }

    private static void dueDifferences(BarCutting x, int line, int other, int... want) {
        for (int k = 0; k <= 9; k++) {
            int due = k < want.length ? want[k] : -1;
            CHECK.due("differs(" + line + ", " + other + ", " + k + ")", x.differs(line, other, k), due);
            CHECK.due("differs(" + other + ", " + line + ", " + k + ")", x.differs(other, line, k), due);
        }
    }

    private static void bendingOrder() {
        BarCutting x = new BarCutting();
        Maker.shape(x, "A");
        Maker.shape(x, "ALB");
        Maker.shape(x, "A");
        int[][] lines = {{2, 12}, {0, 20}, {1, 12}, {0, 12}, {1, 12}, {2, 8}, {0, 20}, {2, 40}, {1, 4}};
        for (int[] line : lines) {
            x.bar(line[0], line[1], 1);
        }
        int[] want = {8, 5, 3, 2, 4, 0, 1, 6, 7};
        for (int k = 0; k < want.length; k++) {
            CHECK.due("order(" + k + ")", x.order(k), want[k]);
        }
        CHECK.due("order(9)", x.order(9), -1);
        CHECK.due("order(-1)", x.order(-1), -1);
        CHECK.due("order(max)", x.order(Integer.MAX_VALUE), -1);
        CHECK.due("order(min)", x.order(Integer.MIN_VALUE), -1);
    }
}
