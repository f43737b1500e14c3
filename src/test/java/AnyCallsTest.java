import java.util.Random;

/** Runs of 512 calls and more with any arguments: none may throw, and the same calls answer the same. */
public final class AnyCallsTest {
    private static final Check CHECK = new Check("AnyCallsTest");
    private static final int[] ODD = {Integer.MIN_VALUE, Integer.MIN_VALUE + 1, -2, -1, 0, 1, 2, 3, 4, 5, 6, 7, 8,
        9, 10, 11, 12, 13, 31, 32, 36, 37, 39, 40, 41, 60, 126, 127, 255, 500, 501, 20000, 20001, 30000, 30001,
        100000, 100001, Integer.MAX_VALUE - 1, Integer.MAX_VALUE};

    public static void main(String[] args) {
        for (long seed = 0; seed < 400; seed++) {
            CHECK.due("run of seed " + seed, answers(seed), answers(seed));
        }
        CHECK.end();
    }

    private static long answers(long seed) {
        Random random = new Random(seed);
        BarCutting x = new BarCutting();
        long all = 0;
        for (int call = 0; call < 512; call++) {
            boolean sensible = random.nextInt(8) != 0;
            long answer = sensible ? sensibleCall(x, random) : oddCall(x, random);
            all = all * 31 + answer;
        }
        return all;
    }

    private static long sensibleCall(BarCutting x, Random random) {
        int line = random.nextInt(12);
        switch (random.nextInt(12)) {
            case 0:
                return Maker.shape(x, new String[] {"A", "ALB", "AUBRC", "ALBRCUDLERF"}[random.nextInt(4)]);
            case 1:
                return x.bar(random.nextInt(4), 4 + random.nextInt(3), 1 + random.nextInt(5));
            case 2:
            case 3:
            case 4:
                return x.leg(line, random.nextInt(6), 1 + random.nextInt(2000)) ? 1 : 0;
            case 5:
                return x.stock(4 + random.nextInt(3), 1 + random.nextInt(30000), random.nextInt(21)) ? 1 : 0;
            case 6:
                return x.rule(4 + random.nextInt(3), random.nextInt(20)) ? 1 : 0;
            case 7:
                return x.place(line, random.nextInt(2000), random.nextInt(2000), random.nextInt(9)) ? 1 : 0;
            case 8:
                return x.clash(line, random.nextInt(12)) + 10L * x.command(line, random.nextInt(23));
            case 9:
                return x.lap(line, random.nextInt(5001)) + 10 * x.weight(line, random.nextInt(2));
            case 10:
                return x.order(line) + 20L * x.differs(line, random.nextInt(12), random.nextInt(9));
            default:
                return x.run(random.nextInt(9)) + 100L * x.pattern(random.nextInt(60), random.nextInt(9));
        }
    }

    private static long oddCall(BarCutting x, Random random) {
        int a = odd(random);
        int b = odd(random);
        int c = odd(random);
        long far = random.nextBoolean() ? odd(random) : random.nextLong();
        switch (random.nextInt(20)) {
            case 0: return x.unit(a) ? 1 : 0;
            case 1: return x.shape();
            case 2: return x.rule(a, far) ? 1 : 0;
            case 3: return x.bar(a, b, c);
            case 4: return x.leg(a, b, far) ? 1 : 0;
            case 5: return x.length(a, b);
            case 6: return x.stock(a, far, b) ? 1 : 0;
            case 7: return x.run(far);
            case 8: return x.loss(a);
            case 9: return x.bound(a);
            case 10: return x.proved() ? 1 : 0;
            case 11: return x.pattern(a, b);
            case 12: return x.place(a, far, b, c) ? 1 : 0;
            case 13: return x.command(a, b);
            case 14: return x.clash(a, b);
            case 15: return x.lap(a, far);
            case 16: return x.weight(a, b);
            case 17: return x.tag(a, b);
            case 18: return x.differs(a, b, c);
            default: return x.order(a);
        }
    }

    private static int odd(Random random) {
        return ODD[random.nextInt(ODD.length)];
    }
}
