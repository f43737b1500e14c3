import java.util.ArrayList;
import java.util.List;
import java.util.Random;

/** Promises 14 to 16: places, pictures and clashes. */
public final class PlaceTest {
    private static final Check CHECK = new Check("PlaceTest");

    public static void main(String[] args) {
        places();
        pictures();
        wrongPictures();
        clashEdges();
        wrongClashes();
        stepsAsideDoNotClash();
        farApart();
        longTracksLeaveNothing();
        clashesAgainstPoints();
        CHECK.end();
    }

    private static void places() {
        BarCutting x = new BarCutting();
        CHECK.due("no line", x.place(0, 0, 0, 0), false);
        Maker.shape(x, "A");
        Maker.line(x, 0, 10, 1, 100);
        Maker.line(x, 0, 10, 1, 100);
        x.place(1, 0, 0, 0);
        for (long wrong : new long[] {-100001, 100001, Long.MIN_VALUE, Long.MAX_VALUE, 1L << 32, -(1L << 32)}) {
            CHECK.due("place(0, " + wrong + ", 0, 0)", x.place(0, wrong, 0, 0), false);
            CHECK.due("place(0, 0, " + wrong + ", 0)", x.place(0, 0, wrong, 0), false);
            CHECK.due("place(0, 0, 0, " + wrong + ")", x.place(0, 0, 0, wrong), false);
        }
        CHECK.due("place(-1, ..)", x.place(-1, 0, 0, 0), false);
        CHECK.due("place(2, ..)", x.place(2, 0, 0, 0), false);
        CHECK.due("still not placed", x.clash(0, 1), -1);
        CHECK.due("the greatest", x.place(0, 100000, 100000, 100000), true);
        CHECK.due("placed", x.clash(0, 1), 0);
        CHECK.due("the least", x.place(0, -100000, -100000, -100000), true);
        CHECK.due("placed again", x.clash(0, 1), 0);
        x.place(0, 0, 0, 0);
        CHECK.due("clash", x.clash(0, 1), 1);
        CHECK.due("a wrong place", x.place(0, 5000, 5000, 100001), false);
        CHECK.due("changes nothing", x.clash(0, 1), 1);
        int untold = x.bar(0, 4, 1);
        CHECK.due("legs need not be told", x.place(untold, 1, 2, 3), true);
    }

    private static void pictures() {
        duePicture("A", 10, new long[] {70}, 70, 0);
        duePicture("ALB", 10, new long[] {70, 30}, 70, 0, 0, 30);
        duePicture("ARB", 10, new long[] {70, 30}, 70, 0, 0, -30);
        duePicture("AUB", 16, new long[] {200, 70}, 200, 0, 0, 48, -70, 0);
        duePicture("ALBLCLDLE", 4, new long[] {1, 2, 3, 4, 5}, 1, 0, 0, 2, -3, 0, 0, -4, 5, 0);
        duePicture("ARBRCRDRE", 4, new long[] {1, 2, 3, 4, 5}, 1, 0, 0, -2, -3, 0, 0, 4, 5, 0);
        duePicture("ALBUC", 5, new long[] {10, 20, 30}, 10, 0, 0, 20, -15, 0, 0, -30);
        duePicture("ARBUC", 5, new long[] {10, 20, 30}, 10, 0, 0, -20, 15, 0, 0, 30);
        duePicture("AUBUC", 5, new long[] {10, 20, 30}, 10, 0, 0, 15, -20, 0, 0, -15, 30, 0);
        duePicture("AUBLCRD", 40, new long[] {10, 20, 30, 40}, 10, 0, 0, 120, -20, 0, 0, -30, -40, 0);
        duePicture("AUBUCUDUEUF", 4, new long[] {1, 2, 3, 4, 5, 6},
                1, 0, 0, 12, -2, 0, 0, -12, 3, 0, 0, 12, -4, 0, 0, -12, 5, 0, 0, 12, -6, 0);
    }

    private static void duePicture(String text, int diameter, long[] legs, int... want) {
        BarCutting x = new BarCutting();
        int line = Maker.line(x, Maker.shape(x, text), diameter, 2, legs);
        for (int round = 0; round < 2; round++) {
            for (int i = 0; i < want.length; i++) {
                CHECK.due(text + " command " + i, x.command(line, i), want[i]);
            }
            CHECK.due(text + " behind its end", x.command(line, want.length), -1);
            // Neither the place nor a rule has part in the picture.
            x.place(line, -700, 900, 30);
            x.rule(diameter, 3);
        }
    }

    private static void wrongPictures() {
        BarCutting x = new BarCutting();
        CHECK.due("no line", x.command(0, 0), -1);
        int line = x.bar(Maker.shape(x, "ALB"), 10, 1);
        CHECK.due("no leg told", x.command(line, 0), -1);
        x.leg(line, 0, 50);
        CHECK.due("one leg told", x.command(line, 0), -1);
        int last = x.bar(0, 10, 1);
        x.leg(last, 1, 50);
        CHECK.due("the last leg told alone", x.command(last, 2), -1);
        x.leg(line, 1, 60);
        CHECK.due("all told", x.command(line, 0), 50);
        CHECK.due("command(0, -1)", x.command(line, -1), -1);
        CHECK.due("command(0, -2)", x.command(line, -2), -1);
        CHECK.due("command(0, min)", x.command(line, Integer.MIN_VALUE), -1);
        CHECK.due("command(0, max)", x.command(line, Integer.MAX_VALUE), -1);
        CHECK.due("command(-1, 0)", x.command(-1, 0), -1);
        CHECK.due("command(2, 0)", x.command(2, 0), -1);
    }

    private static void clashEdges() {
        BarCutting x = new BarCutting();
        Maker.shape(x, "A");
        Maker.line(x, 0, 5, 1, 100);
        Maker.line(x, 0, 4, 1, 100);
        x.place(0, 0, 0, 0);
        dueClash(x, 0, 4, 0, 1);
        dueClash(x, 0, 5, 0, 0);
        dueClash(x, 0, 0, 4, 1);
        dueClash(x, 0, 0, -5, 0);
        dueClash(x, 0, -4, 2, 1);
        dueClash(x, 0, -4, 3, 0);
        dueClash(x, 104, 0, 0, 1);
        dueClash(x, 105, 0, 0, 0);
        dueClash(x, -104, 0, 0, 1);
        dueClash(x, -105, 0, 0, 0);
        dueClash(x, 102, 3, 2, 1);
        dueClash(x, 103, 3, 2, 0);
        Maker.line(x, 0, 5, 1, 100);
        x.place(2, 0, 3, 4);
        CHECK.due("just as near as both halves", x.clash(0, 2), 0);
        x.place(2, 0, 3, 3);
        CHECK.due("nearer", x.clash(0, 2), 1);
    }

    private static void dueClash(BarCutting x, long px, long py, long pz, int want) {
        x.place(1, px, py, pz);
        String call = "clash at " + px + ", " + py + ", " + pz;
        CHECK.due(call, x.clash(0, 1), want);
        CHECK.due(call + " the other way", x.clash(1, 0), want);
    }

    private static void wrongClashes() {
        BarCutting x = new BarCutting();
        CHECK.due("no lines", x.clash(0, 1), -1);
        int shape = Maker.shape(x, "ALB");
        Maker.line(x, shape, 10, 1, 100, 100);
        Maker.line(x, shape, 10, 1, 100);
        x.place(0, 0, 0, 0);
        CHECK.due("neither placed nor told", x.clash(0, 1), -1);
        x.leg(1, 1, 5);
        CHECK.due("not placed", x.clash(0, 1), -1);
        CHECK.due("not placed, the other way", x.clash(1, 0), -1);
        x.place(1, 0, 0, 0);
        CHECK.due("all is there", x.clash(0, 1), 1);
        CHECK.due("the same", x.clash(0, 0), -1);
        CHECK.due("line 2", x.clash(0, 2), -1);
        CHECK.due("line 2 first", x.clash(2, 0), -1);
        CHECK.due("line -1", x.clash(-1, 0), -1);
        CHECK.due("line -1 behind", x.clash(0, -1), -1);
        Maker.line(x, shape, 10, 1, 100);
        x.place(2, 0, 0, 0);
        CHECK.due("legs not all told", x.clash(0, 2), -1);
        CHECK.due("legs not all told, the other way", x.clash(2, 0), -1);
    }

    private static void stepsAsideDoNotClash() {
        BarCutting x = new BarCutting();
        int u = Maker.line(x, Maker.shape(x, "AUB"), 40, 1, 500, 500);
        int thin = Maker.line(x, Maker.shape(x, "A"), 4, 1, 100);
        x.place(u, 0, 0, 0);
        x.place(thin, 450, 60, 0);
        CHECK.due("through the step alone", x.clash(u, thin), 0);
        x.place(thin, 450, 21, 0);
        CHECK.due("at the first leg", x.clash(u, thin), 1);
        x.place(thin, 450, 22, 0);
        CHECK.due("just off the first leg", x.clash(u, thin), 0);
        x.place(thin, 450, 99, 0);
        CHECK.due("at the second leg", x.clash(u, thin), 1);
        x.place(thin, 450, 98, 0);
        CHECK.due("just off the second leg", x.clash(u, thin), 0);
    }

    private static void farApart() {
        BarCutting x = new BarCutting();
        int shape = Maker.shape(x, "ALBRCLDREUF");
        int a = Maker.line(x, shape, 40, 1, 20000, 20000, 20000, 20000, 20000, 20000);
        int b = Maker.line(x, shape, 40, 1, 20000, 20000, 20000, 20000, 20000, 20000);
        x.place(a, -100000, -100000, -100000);
        x.place(b, 100000, 100000, 100000);
        CHECK.due("as far as can be", x.clash(a, b), 0);
        x.place(b, -100000, -100000, -99960);
        CHECK.due("just above", x.clash(a, b), 0);
        x.place(b, -100000, -100000, -99961);
        CHECK.due("a little nearer", x.clash(a, b), 1);
    }

    private static void longTracksLeaveNothing() {
        BarCutting x = new BarCutting();
        int longest = Maker.shape(x, "AUBUCUDUEUF");
        Maker.line(x, longest, 10, 1, 100, 100, 100, 100, 100, 100);
        Maker.line(x, longest, 10, 1, 100, 100, 100, 100, 100, 100);
        Maker.line(x, Maker.shape(x, "A"), 10, 1, 100);
        Maker.line(x, 1, 10, 1, 100);
        x.place(0, 0, 0, 0);
        x.place(1, 0, 5, 0);
        x.place(2, 0, 900, 0);
        x.place(3, 0, 30, 0);
        CHECK.due("two of six legs", x.clash(0, 1), 1);
        CHECK.due("straight ones behind them", x.clash(2, 3), 0);
        CHECK.due("six legs and a straight one", x.clash(0, 2), 0);
        CHECK.due("a straight one and six legs", x.clash(2, 1), 0);
        CHECK.due("the second leg", x.clash(3, 0), 1);
    }

    private static void clashesAgainstPoints() {
        Random random = new Random(11);
        String[] texts = {"A", "ALB", "ARB", "AUB", "ALBRC", "AUBLC", "ARBUCRD"};
        for (int round = 0; round < 4000; round++) {
            BarCutting x = new BarCutting();
            String[] text = new String[2];
            int[] diameter = new int[2];
            long[][] legs = new long[2][];
            long[][] at = new long[2][];
            for (int line = 0; line < 2; line++) {
                text[line] = texts[random.nextInt(texts.length)];
                diameter[line] = 4 + random.nextInt(6);
                legs[line] = random.longs((text[line].length() + 1) / 2, 1, 25).toArray();
                at[line] = random.longs(3, -14, 15).toArray();
                Maker.line(x, Maker.shape(x, text[line]), diameter[line], 1, legs[line]);
                x.place(line, at[line][0], at[line][1], at[line][2]);
            }
            boolean near = isNear(points(text[0], diameter[0], legs[0], at[0]),
                    points(text[1], diameter[1], legs[1], at[1]), diameter[0] + diameter[1]);
            CHECK.due("round " + round + " of " + text[0] + " and " + text[1], x.clash(0, 1), near ? 1 : 0);
        }
    }

    private static boolean isNear(List<long[]> a, List<long[]> b, long diameters) {
        for (long[] p : a) {
            for (long[] q : b) {
                long square = 0;
                for (int i = 0; i < 3; i++) {
                    square += (p[i] - q[i]) * (p[i] - q[i]);
                }
                if (4 * square < diameters * diameters) {
                    return true;
                }
            }
        }
        return false;
    }

    /** All points of all legs, walked one by one; ways are numbered against the clock from greater x. */
    private static List<long[]> points(String text, int diameter, long[] legs, long[] at) {
        long[] alongX = {1, 0, -1, 0};
        long[] alongY = {0, 1, 0, -1};
        List<long[]> all = new ArrayList<>();
        long px = at[0];
        long py = at[1];
        int way = 0;
        for (int i = 0; i < text.length(); i++) {
            char sign = text.charAt(i);
            if (i % 2 == 0) {
                all.add(new long[] {px, py, at[2]});
                for (long step = 0; step < legs[i / 2]; step++) {
                    px += alongX[way];
                    py += alongY[way];
                    all.add(new long[] {px, py, at[2]});
                }
            } else if (sign == 'U') {
                int left = (way + 1) % 4;
                px += 3 * diameter * alongX[left];
                py += 3 * diameter * alongY[left];
                way = (way + 2) % 4;
            } else {
                way = (way + (sign == 'L' ? 1 : 3)) % 4;
            }
        }
        return all;
    }
}
