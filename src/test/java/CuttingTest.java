import java.util.ArrayList;
import java.util.Comparator;
import java.util.List;
import java.util.Random;

/** Promises 8 to 13 (and what 4 to 6 say of what was cut): stock, cutting and what is told of it. */
public final class CuttingTest {
    private static final Check CHECK = new Check("CuttingTest");

    public static void main(String[] args) {
        stockEdges();
        stockIsUsedAsTold();
        nodes();
        noPieces();
        noBarOrNoLength();
        lossAndBound();
        severalDiameters();
        whatIsCutGoes();
        whatIsCutStays();
        preferences();
        firstFit();
        eightBars();
        anotherRun();
        mostPieces();
        randomLists(1, 3000, 5, 6);
        randomLists(2, 400, 8, 30);
        randomLists(3, 1500, 6, 3);
        CHECK.end();
    }

    private static void stockEdges() {
        BarCutting x = new BarCutting();
        CHECK.due("stock(3, 10, 1)", x.stock(3, 10, 1), false);
        CHECK.due("stock(41, 10, 1)", x.stock(41, 10, 1), false);
        CHECK.due("stock(10, 0, 1)", x.stock(10, 0, 1), false);
        CHECK.due("stock(10, -1, 1)", x.stock(10, -1, 1), false);
        CHECK.due("stock(10, 30001, 1)", x.stock(10, 30001, 1), false);
        CHECK.due("stock(10, 2^32 + 1, 1)", x.stock(10, (1L << 32) + 1, 1), false);
        CHECK.due("stock(10, min, 1)", x.stock(10, Long.MIN_VALUE, 1), false);
        CHECK.due("stock(10, 10, -1)", x.stock(10, 10, -1), false);
        CHECK.due("stock(10, 10, 21)", x.stock(10, 10, 21), false);
        CHECK.due("stock(10, 1, 0)", x.stock(10, 1, 0), true);
        CHECK.due("stock(10, 30000, 20)", x.stock(10, 30000, 20), true);
        CHECK.due("stock(10, 30000, 20) again", x.stock(10, 30000, 20), true);
        CHECK.due("a fourth kind", x.stock(10, 5, 5), false);
        CHECK.due("of another diameter", x.stock(4, 5, 5), true);
        CHECK.due("of the greatest diameter", x.stock(40, 5, 5), true);
    }

    private static void stockIsUsedAsTold() {
        BarCutting x = straights(10, 5, 60);
        x.stock(10, 100, 4);
        CHECK.due("four bars for five", x.run(8), -1);
        CHECK.due("four bars for five, second rule", x.run(0), -1);
        x.stock(10, 61, 0);
        CHECK.due("a kind without bars", x.run(8), -1);
        CHECK.due("a kind without bars, second rule", x.run(0), -1);
        x.stock(10, 60, 1);
        CHECK.due("one more bar", x.run(8), 5);
        CHECK.due("its use", x.loss(1), 460);
        CHECK.due("second rule", x.run(4), 5);
    }

    private static void nodes() {
        BarCutting x = straights(10, 5, 60);
        Maker.line(x, 0, 10, 3, 39);
        x.stock(10, 100, 20);
        CHECK.due("run(-1)", x.run(-1), -1);
        CHECK.due("run(9)", x.run(9), -1);
        CHECK.due("run(min)", x.run(Long.MIN_VALUE), -1);
        CHECK.due("run(2^32)", x.run(1L << 32), -1);
        CHECK.due("nothing was cut", x.loss(0), -1);
        for (int nodes = 0; nodes <= 8; nodes++) {
            CHECK.due("run(" + nodes + ")", x.run(nodes), 5);
            CHECK.due("proved behind it", x.proved(), nodes >= 8);
            CHECK.due("bound(1) behind it", x.bound(1), nodes >= 8 ? 1 : 0);
        }
        CHECK.due("run(9) again", x.run(9), -1);
        CHECK.due("changed nothing", x.loss(1), 500);
        CHECK.due("changed nothing of the proof", x.proved(), true);
    }

    private static void noPieces() {
        BarCutting x = new BarCutting();
        for (int nodes = 0; nodes <= 8; nodes += 8) {
            CHECK.due("run", x.run(nodes), 0);
            for (int part = 0; part < 3; part++) {
                CHECK.due("loss(" + part + ")", x.loss(part), 0);
            }
            CHECK.due("bound(0)", x.bound(0), 0);
            CHECK.due("bound(1)", x.bound(1), 0);
            CHECK.due("proved", x.proved(), true);
            CHECK.due("pattern", x.pattern(0, 0), -1);
        }
        x.stock(10, 100, 3);
        CHECK.due("stock alone", x.run(8), 0);
    }

    private static void noBarOrNoLength() {
        BarCutting x = straights(10, 1, 50);
        x.stock(10, 100, 2);
        CHECK.due("one piece", x.run(8), 1);
        int untold = x.bar(0, 10, 1);
        dueNothingCut(x, "a length of 0", 8);
        dueNothingCut(x, "a length of 0, second rule", 0);
        x.leg(untold, 0, 101);
        dueNothingCut(x, "too long", 8);
        dueNothingCut(x, "too long, second rule", 0);
        x.leg(untold, 0, 100);
        CHECK.due("just long enough", x.run(8), 2);
        CHECK.due("just long enough, second rule", x.run(1), 2);
        Maker.line(x, 0, 12, 1, 5);
        dueNothingCut(x, "no stock of 12", 8);
        x.stock(12, 5, 0);
        dueNothingCut(x, "no bar of 12", 8);
        dueNothingCut(x, "no bar of 12, second rule", 0);
        x.stock(12, 5, 1);
        CHECK.due("all are there", x.run(8), 3);
        int bent = Maker.line(x, Maker.shape(x, "AUB"), 12, 1, 1, 1);
        x.rule(12, 1);
        CHECK.due("shortened to 0", x.length(bent, 0), 0);
        dueNothingCut(x, "shortened to 0", 8);
    }

    private static void dueNothingCut(BarCutting x, String what, long nodes) {
        CHECK.due(what + ": run", x.run(nodes), -1);
        CHECK.due(what + ": loss", x.loss(0), -1);
        CHECK.due(what + ": bound", x.bound(0), -1);
        CHECK.due(what + ": bound(1)", x.bound(1), -1);
        CHECK.due(what + ": proved", x.proved(), false);
        CHECK.due(what + ": pattern", x.pattern(0, 0), -1);
    }

    private static void lossAndBound() {
        BarCutting x = straights(10, 3, 60);
        Maker.line(x, 0, 12, 5, 30);
        x.stock(10, 130, 20);
        x.stock(12, 70, 20);
        CHECK.due("run(3)", x.run(3), 5);
        CHECK.due("loss(0)", x.loss(0), 260 - 180 + 210 - 150);
        CHECK.due("loss(1)", x.loss(1), 470);
        CHECK.due("loss(2)", x.loss(2), 330);
        CHECK.due("loss(3)", x.loss(3), -1);
        CHECK.due("loss(-1)", x.loss(-1), -1);
        CHECK.due("bound(0)", x.bound(0), 330);
        CHECK.due("bound(1)", x.bound(1), 1);
        CHECK.due("bound(2)", x.bound(2), -1);
        CHECK.due("bound(-1)", x.bound(-1), -1);
        CHECK.due("one of two is proved", x.proved(), false);
        x.run(5);
        CHECK.due("both by the first rule", x.bound(1), 2);
        CHECK.due("both are proved", x.proved(), true);
        x.run(2);
        CHECK.due("none by the first rule", x.bound(1), 0);
        CHECK.due("none is proved", x.proved(), false);
    }

    private static void severalDiameters() {
        BarCutting x = straights(40, 1, 10);
        Maker.line(x, 0, 4, 2, 10);
        Maker.line(x, 0, 12, 1, 10);
        Maker.line(x, 0, 4, 1, 30);
        x.stock(40, 11, 1);
        x.stock(12, 12, 1);
        x.stock(4, 40, 20);
        dueBars(x, 8, "4/40: 3 1; 4/40: 1; 12/12: 2; 40/11: 0");
        dueBars(x, 0, "4/40: 3 1; 4/40: 1; 12/12: 2; 40/11: 0");
        CHECK.due("pattern(0, 2)", x.pattern(0, 2), 2);
        CHECK.due("pattern(0, 3)", x.pattern(0, 3), 3);
        CHECK.due("pattern(0, 4)", x.pattern(0, 4), 1);
        CHECK.due("pattern(0, 5)", x.pattern(0, 5), -1);
        CHECK.due("pattern(0, -1)", x.pattern(0, -1), -1);
        CHECK.due("pattern(0, min)", x.pattern(0, Integer.MIN_VALUE), -1);
        CHECK.due("pattern(0, max)", x.pattern(0, Integer.MAX_VALUE), -1);
        CHECK.due("pattern(-1, 0)", x.pattern(-1, 0), -1);
        CHECK.due("pattern(4, 0)", x.pattern(4, 0), -1);
        CHECK.due("pattern(max, 0)", x.pattern(Integer.MAX_VALUE, 0), -1);
    }

    private static void whatIsCutGoes() {
        BarCutting x = straights(10, 1, 50);
        x.stock(10, 100, 20);
        x.run(8);
        CHECK.due("rule", x.rule(30, 0), true);
        dueGone(x, "rule");
        CHECK.due("bar", x.bar(0, 10, 1), 1);
        dueGoneBehind(x, "bar");
        x.leg(1, 0, 50);
        x.run(8);
        CHECK.due("leg", x.leg(1, 0, 50), true);
        dueGone(x, "leg");
        CHECK.due("stock", x.stock(30, 1, 0), true);
        dueGone(x, "stock");
    }

    private static void dueGone(BarCutting x, String call) {
        dueGoneBehind(x, call);
        CHECK.due("run behind " + call, x.run(8), 1);
    }

    private static void dueGoneBehind(BarCutting x, String call) {
        CHECK.due("loss behind " + call, x.loss(1), -1);
        CHECK.due("bound behind " + call, x.bound(0), -1);
        CHECK.due("proved behind " + call, x.proved(), false);
        CHECK.due("pattern behind " + call, x.pattern(0, 0), -1);
    }

    private static void whatIsCutStays() {
        BarCutting x = straights(10, 1, 50);
        x.stock(10, 100, 20);
        x.stock(10, 200, 20);
        x.stock(10, 300, 20);
        x.run(8);
        x.rule(3, 0);
        x.rule(10, 501);
        x.bar(0, 10, 6);
        x.leg(0, 1, 10);
        x.leg(0, 0, 20001);
        x.stock(10, 400, 20);
        x.stock(10, 0, 1);
        x.run(9);
        x.run(-1);
        x.place(0, 1, 2, 3);
        Maker.shape(x, "ALB");
        Maker.shape(x, "AXB");
        x.command(0, 0);
        x.lap(0, 10);
        x.weight(0, 0);
        x.order(0);
        CHECK.due("loss", x.loss(1), 100);
        CHECK.due("bound", x.bound(0), 50);
        CHECK.due("proved", x.proved(), true);
        CHECK.due("pattern", x.pattern(0, 1), 100);
    }

    private static void preferences() {
        dueCut("the least stock", new long[] {50, 50}, new long[] {120, 60, 100}, "10/100: 0 1");
        dueCut("the fewest bars", new long[] {50, 50}, new long[] {50, 100}, "10/100: 0 1");
        dueCut("the kind told first", new long[] {40, 10}, new long[] {10, 50, 40}, "10/50: 0 1");
        dueCut("one bar of as much as two", new long[] {30, 30}, new long[] {30, 60, 31},
                "10/60: 0 1");
        dueCut("the lesser piece", new long[] {5, 5, 5, 5}, new long[] {10}, "10/10: 0 1; 10/10: 2 3");
        dueCut("the row that goes on", new long[] {5, 4, 1, 1}, new long[] {7, 6}, "10/6: 0 2; 10/6: 1 3");
        dueCut("it goes on though more are left", new long[] {6, 2, 2, 2}, new long[] {10},
                "10/10: 0 1 2; 10/10: 3");
        dueCut("not the least kind for each", new long[] {55, 55, 35, 35, 35, 20, 20, 20},
                new long[] {100, 90, 110}, "10/100: 0 5 6; 10/90: 1 2; 10/90: 3 4 7");
        // 8 + 8 and 10 + 6 are as long and as many: the kind of the first bar decides.
        dueCut("equal sums, 8 told first", new long[] {5, 5, 3, 3}, new long[] {8, 10, 6},
                "10/8: 0 2; 10/8: 1 3");
        dueCut("equal sums, 10 told first", new long[] {5, 5, 3, 3}, new long[] {10, 6, 8},
                "10/10: 0 1; 10/6: 2 3");
    }

    private static void dueCut(String what, long[] legs, long[] stock, String want) {
        BarCutting x = new BarCutting();
        Maker.shape(x, "A");
        for (long leg : legs) {
            Maker.line(x, 0, 10, 1, leg);
        }
        for (long length : stock) {
            x.stock(10, length, 20);
        }
        CHECK.due(what + ": run", x.run(8) >= 0, true);
        dueText(what, Maker.bars(x), want);
    }

    private static void firstFit() {
        BarCutting x = straights(10, 2, 30);
        Maker.line(x, 0, 10, 2, 60);
        Maker.line(x, 0, 10, 1, 30);
        Maker.line(x, 0, 10, 1, 45);
        x.stock(10, 100, 2);
        x.stock(10, 80, 1);
        x.stock(10, 80, 1);
        dueBars(x, 5, "10/80: 1; 10/80: 1; 10/100: 3 0; 10/100: 0 2");
        dueBars(x, 6, "10/100: 1 0; 10/100: 1 0; 10/80: 3 2");
        BarCutting late = straights(10, 1, 50);
        Maker.line(late, 0, 10, 2, 10);
        late.stock(10, 60, 1);
        late.stock(10, 10, 1);
        dueBars(late, 2, "10/60: 0 1; 10/10: 1");
        BarCutting lost = straights(10, 1, 50);
        Maker.line(lost, 0, 10, 1, 40);
        Maker.line(lost, 0, 10, 1, 30);
        Maker.line(lost, 0, 10, 1, 20);
        lost.stock(10, 70, 2);
        dueBars(lost, 0, "10/70: 0 3; 10/70: 1 2");
        Maker.line(lost, 0, 10, 1, 1);
        CHECK.due("no room for the last", lost.run(0), -1);
    }

    private static void eightBars() {
        BarCutting x = straights(10, 5, 60);
        Maker.line(x, 0, 10, 3, 51);
        x.stock(10, 100, 3);
        x.stock(10, 99, 3);
        x.stock(10, 98, 2);
        dueBars(x, 8, "10/100: 0; 10/100: 0; 10/100: 0; 10/99: 0; 10/99: 0; 10/99: 1; 10/98: 1; 10/98: 1");
        CHECK.due("proved", x.proved(), true);
    }

    private static void anotherRun() {
        BarCutting x = straights(10, 5, 60);
        x.stock(10, 100, 5);
        for (int nodes = 0; nodes <= 8; nodes += 8) {
            x.leg(0, 0, 60);
            CHECK.due("five bars", x.run(nodes), 5);
            CHECK.due("their length", x.loss(1), 500);
            x.leg(0, 0, 20);
            CHECK.due("one bar", x.run(nodes), 1);
            CHECK.due("its length", x.loss(1), 100);
            CHECK.due("what is left of it", x.loss(0), 0);
            CHECK.due("no second bar", x.pattern(1, 0), -1);
            CHECK.due("run again", x.run(nodes), 1);
            CHECK.due("its pieces", x.pattern(0, 2), 5);
        }
    }

    private static void mostPieces() {
        BarCutting x = new BarCutting();
        Maker.shape(x, "A");
        for (int line = 0; line < 12; line++) {
            Maker.line(x, 0, 10, 5, 10000);
        }
        x.stock(10, 10000, 20);
        x.stock(10, 10001, 20);
        x.stock(10, 10002, 19);
        CHECK.due("one bar is wanting", x.run(8), -1);
        BarCutting y = new BarCutting();
        Maker.shape(y, "A");
        for (int line = 0; line < 12; line++) {
            Maker.line(y, 0, 10, 5, 10000);
        }
        y.stock(10, 10002, 20);
        y.stock(10, 10000, 20);
        y.stock(10, 30000, 20);
        CHECK.due("run", y.run(8), 47);
        CHECK.due("loss(1)", y.loss(1), 20 * 10000 + 20 * 10002 + 7 * 30000);
        CHECK.due("bound(0)", y.bound(0), 600000);
        CHECK.due("proved", y.proved(), false);
        dueText("the first bar", Maker.bar(y, 0), "10/10000: 0");
        dueText("the last of the least kind", Maker.bar(y, 19), "10/10000: 3");
        dueText("the next kind", Maker.bar(y, 20), "10/10002: 4");
        dueText("the greatest kind", Maker.bar(y, 40), "10/30000: 8 8 8");
        dueText("the last bar", Maker.bar(y, 46), "10/30000: 11 11");
    }

    private static BarCutting straights(int diameter, int n, long leg) {
        BarCutting x = new BarCutting();
        Maker.line(x, Maker.shape(x, "A"), diameter, n, leg);
        return x;
    }

    private static void dueBars(BarCutting x, long nodes, String want) {
        x.run(nodes);
        dueText("run(" + nodes + ")", Maker.bars(x), want);
    }

    private static void dueText(String what, String got, String want) {
        if (!got.equals(want)) {
            System.out.println(what + " cut [" + got + "], due is [" + want + "]");
        }
        CHECK.due(what, got.equals(want), true);
    }

    /** Lists with up to the given number of pieces, both rules against all ways made by hand. */
    private static void randomLists(long seed, int rounds, int mostPieces, int greatest) {
        Random random = new Random(seed);
        for (int round = 0; round < rounds; round++) {
            BarCutting x = new BarCutting();
            Maker.shape(x, "A");
            List<long[]> pieces = new ArrayList<>();
            for (int line = 0; line < 12 && pieces.size() < mostPieces; line++) {
                int n = 1 + random.nextInt(Math.min(3, mostPieces - pieces.size()));
                long leg = 1 + random.nextInt(greatest);
                Maker.line(x, 0, 10, n, leg);
                for (int i = 0; i < n; i++) {
                    pieces.add(new long[] {line, leg});
                }
                if (random.nextInt(12) == 0) {
                    break;
                }
            }
            pieces.sort(Comparator.comparingLong(piece -> -piece[1]));
            long[] sizes = new long[1 + random.nextInt(3)];
            int[] counts = new int[sizes.length];
            for (int kind = 0; kind < sizes.length; kind++) {
                sizes[kind] = greatest / 2 + 1 + random.nextInt(2 * greatest);
                counts[kind] = random.nextInt(5) + random.nextInt(3) * random.nextInt(3);
                x.stock(10, sizes[kind], counts[kind]);
            }
            long[] lengths = pieces.stream().mapToLong(piece -> piece[1]).toArray();
            Ways ways = new Ways(lengths, sizes, counts);
            String name = "seed " + seed + " round " + round;
            dueWay(name + " first rule", x, pieces.size(), ways.first(), pieces, sizes);
            dueWay(name + " second rule", x, pieces.size() - 1, ways.second(), pieces, sizes);
        }
    }

    private static void dueWay(String name, BarCutting x, int nodes, List<Ways.Bar> way, List<long[]> pieces,
            long[] sizes) {
        CHECK.due(name, x.run(nodes), way == null ? -1 : way.size());
        StringBuilder want = new StringBuilder();
        for (int k = 0; way != null && k < way.size(); k++) {
            want.append(k == 0 ? "" : "; ").append("10/").append(sizes[way.get(k).kind]).append(':');
            for (int piece : way.get(k).pieces) {
                want.append(' ').append(pieces.get(piece)[0]);
            }
        }
        dueText(name, Maker.bars(x), want.toString());
    }
}
