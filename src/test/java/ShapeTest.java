/** Promises 1 to 3: a new object, the signs that are collected, and the shapes. */
public final class ShapeTest {
    private static final Check CHECK = new Check("ShapeTest");

    public static void main(String[] args) {
        newObject();
        signsCollected();
        mostSigns();
        rightShapes();
        wrongShapes();
        sixLegs();
        collectedIsGone();
        tenShapes();
        CHECK.end();
    }

    private static void newObject() {
        BarCutting x = new BarCutting();
        CHECK.due("no shape: bar", x.bar(0, 10, 1), -1);
        CHECK.due("no line: length", x.length(0, 1), -1);
        CHECK.due("no line: order", x.order(0), -1);
        CHECK.due("nothing cut: loss", x.loss(0), -1);
        CHECK.due("nothing cut: bound", x.bound(0), -1);
        CHECK.due("nothing cut: proved", x.proved(), false);
        CHECK.due("nothing cut: pattern", x.pattern(0, 0), -1);
        CHECK.due("nothing collected", x.shape(), -1);
        int shape = Maker.shape(x, "ALB");
        int line = Maker.line(x, shape, 10, 1, 100, 100);
        CHECK.due("no rules", x.length(line, 0), 200);
        CHECK.due("no stock: lap", x.lap(line, 0), -1);
        CHECK.due("no stock: run", x.run(8), -1);
        CHECK.due("not placed", x.clash(line, Maker.line(x, shape, 10, 1, 1, 1)), -1);
        BarCutting other = new BarCutting();
        CHECK.due("objects have nothing in common", other.length(0, 0), -1);
    }

    private static void signsCollected() {
        for (int u = -3; u < 300; u++) {
            BarCutting one = new BarCutting();
            boolean sign = u >= 32 && u <= 126;
            CHECK.due("unit(" + u + ")", one.unit(u), sign);
            CHECK.due("shape of " + u, one.shape(), u == 'A' ? 0 : -1);
        }
        BarCutting x = new BarCutting();
        CHECK.due("unit(A + 65536)", x.unit('A' + 65536), false);
        CHECK.due("unit(A + 256)", x.unit('A' + 256), false);
        CHECK.due("unit(min)", x.unit(Integer.MIN_VALUE), false);
        CHECK.due("unit(max)", x.unit(Integer.MAX_VALUE), false);
        x.unit('A');
        CHECK.due("unit(31) between", x.unit(31), false);
        CHECK.due("a refused sign is not collected", x.shape(), 0);
    }

    private static void mostSigns() {
        BarCutting x = new BarCutting();
        for (int i = 0; i < 40; i++) {
            CHECK.due("unit " + i, x.unit("ALBLCLDLELFLG".charAt(Math.min(i, 12))), true);
        }
        CHECK.due("unit 40", x.unit('A'), false);
        CHECK.due("unit 41", x.unit('A'), false);
        CHECK.due("shape of 40 signs", x.shape(), -13);
        CHECK.due("room again", x.unit('A'), true);
        CHECK.due("shape behind 40 signs", x.shape(), 0);
    }

    private static void rightShapes() {
        BarCutting x = new BarCutting();
        CHECK.due("A", Maker.shape(x, "A"), 0);
        CHECK.due("ALB", Maker.shape(x, "ALB"), 1);
        CHECK.due("ARB", Maker.shape(x, "ARB"), 2);
        CHECK.due("AUB", Maker.shape(x, "AUB"), 3);
        CHECK.due("the same again", Maker.shape(x, "AUB"), 4);
        CHECK.due("ALBRCUDLERF", Maker.shape(x, "ALBRCUDLERF"), 5);
    }

    private static void wrongShapes() {
        String[] texts = {
            "", "B", "a", "L", " ", "AL", "AB", "ALA", "ALC", "ALBC", "ALBL", "ALBLB", "ALBXC",
            "ALBlC", "AA", "ALL", "ALBB", "A ", "ALB ", "AUBUCU", "BLA",
        };
        int[] wrong = {0, 0, 0, 0, 0, 2, 1, 2, 2, 3, 4, 4, 3, 3, 1, 2, 3, 1, 3, 6, 0};
        BarCutting x = new BarCutting();
        for (int i = 0; i < texts.length; i++) {
            CHECK.due("'" + texts[i] + "'", Maker.shape(x, texts[i]), -1 - wrong[i]);
        }
        CHECK.due("none of them became a shape", Maker.shape(x, "A"), 0);
    }

    private static void sixLegs() {
        BarCutting x = new BarCutting();
        CHECK.due("six legs", Maker.shape(x, "ALBLCLDLELF"), 0);
        CHECK.due("a bend behind the sixth", Maker.shape(x, "ALBLCLDLELFR"), -13);
        CHECK.due("a seventh leg", Maker.shape(x, "ALBLCLDLELFRG"), -13);
        CHECK.due("no bend behind the sixth", Maker.shape(x, "ALBLCLDLELFG"), -12);
        CHECK.due("two bends behind the sixth", Maker.shape(x, "ALBLCLDLELFLL"), -13);
    }

    private static void collectedIsGone() {
        BarCutting x = new BarCutting();
        CHECK.due("ALB", Maker.shape(x, "ALB"), 0);
        CHECK.due("gone behind a shape", x.shape(), -1);
        CHECK.due("ALX", Maker.shape(x, "ALX"), -3);
        CHECK.due("gone behind a wrong one", x.shape(), -1);
        CHECK.due("A", Maker.shape(x, "A"), 1);
    }

    private static void tenShapes() {
        BarCutting x = new BarCutting();
        for (int i = 0; i < 10; i++) {
            CHECK.due("shape " + i, Maker.shape(x, "AUB"), i);
        }
        CHECK.due("an eleventh of one sign", Maker.shape(x, "A"), -2);
        CHECK.due("an eleventh of three", Maker.shape(x, "ALB"), -4);
        CHECK.due("an eleventh of six legs", Maker.shape(x, "ALBLCLDLELF"), -12);
        CHECK.due("an eleventh that ends too early", Maker.shape(x, "AL"), -3);
        CHECK.due("an eleventh that is wrong", Maker.shape(x, "AXB"), -2);
        CHECK.due("none collected", x.shape(), -1);
        CHECK.due("the tenth can be used", x.bar(9, 4, 1), 0);
        CHECK.due("there is no eleventh", x.bar(10, 4, 1), -1);
    }
}
