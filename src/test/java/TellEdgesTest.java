/** The boundary cases of promises 17 to 21 (laps, weights, tags, differences, order): a test for each sentence. */
public final class TellEdgesTest {
    private static final Check CHECK = new Check("TellEdgesTest");
    private static final String SIX_LEGS = "ALBRCUDLERF";

    public static void main(String[] args) {
        lapFrom0To5000();
        lapBelowTheStockLength();
        lapOfTheGreatestStock();
        lapWithoutBars();
        lapWithoutStock();
        leastNumberOfLaps();
        mostLaps();
        linesOfLap();
        weightInLeastTerms();
        weightOfNothing();
        heaviest();
        partsOfWeight();
        linesOfWeight();
        signsOfTag();
        digitsOfTag();
        linesOfTag();
        differsFrom0();
        differsByNumberOfShape();
        differsWithFewerLegs();
        differsNotAtAll();
        linesOfDiffers();
        orderFrom0();
        orderOfEqualLines();
        orderAtItsEnds();
        CHECK.end();
    }

    /** Promise 17: "laps of a length (0 .. 5,000)"; "BAD: none such". */
    private static void lapFrom0To5000() {
        Run run = new Run(CHECK, "a lap of 0 .. 5,000").shape("A").line(0, 10, 1, 20000).does("stock(10, 12500, 1)");
        run.longRange("lap(0, #)", 0, 5000, 1, -1);
        run.does("stock(10, 12499, 1)", "stock(10, 30000, 1)").longRange("lap(0, #)", 0, 5000, 0, -1);
    }

    /** Promise 17: "BAD: .. the lap is not below the stock length". */
    private static void lapBelowTheStockLength() {
        for (int stock : new int[] {1, 2, 700, 5000, 5001}) {
            Run run = new Run(CHECK, "the lap is not below the stock length").shape("A").line(0, 10, 1, 1);
            run.does("stock(10, " + stock + ", 1)").due("lap(0, " + (stock - 1) + ")", 0);
            run.refused("lap(0, " + stock + ")", -1).refused("lap(0, " + (stock + 1) + ")", -1);
        }
    }

    /** Promise 17: "if it is made of bars of the greatest stock length of its diameter". */
    private static void lapOfTheGreatestStock() {
        Run run = new Run(CHECK, "the greatest stock length of its diameter").shape("A").line(0, 10, 1, 1000);
        run.does("stock(9, 30000, 20)", "stock(11, 30000, 20)", "stock(10, 100, 20)").due("lap(0, 0)", 9);
        run.does("stock(10, 250, 1)").due("lap(0, 0)", 3).does("stock(10, 249, 20)").due("lap(0, 0)", 3);
        Run last = new Run(CHECK, "the greatest stock length told last").shape("A").line(0, 10, 1, 1000);
        last.does("stock(10, 1, 1)", "stock(10, 2, 1)", "stock(10, 500, 1)").due("lap(0, 0)", 1);
    }

    /** Promise 17: "also if none is there of it". */
    private static void lapWithoutBars() {
        Run run = new Run(CHECK, "also if none is there of it").shape("A").line(0, 10, 1, 1000);
        run.does("stock(10, 500, 0)").due("lap(0, 0)", 1).does("stock(10, 400, 20)").due("lap(0, 0)", 1);
    }

    /** Promise 17: "BAD: .. no stock". */
    private static void lapWithoutStock() {
        Run run = new Run(CHECK, "lap: no stock").shape("A").line(0, 10, 1, 1000);
        run.refused("lap(0, 0)", -1).does("stock(9, 100, 1)", "stock(11, 100, 1)").refused("lap(0, 0)", -1);
        run.does("stock(10, 0, 1)", "stock(10, 30001, 1)", "stock(10, 5, 21)").refused("lap(0, 0)", -1);
        run.does("stock(10, 500, 0)").due("lap(0, 0)", 1);
    }

    /** Promise 17: "the least number so that one bar more, all together, less the laps, is not below its length". */
    private static void leastNumberOfLaps() {
        Run run = new Run(CHECK, "the least number that is not below its length").shape("A").does("bar(0, 10, 1)");
        run.does("stock(10, 1000, 1)").due("lap(0, 0)", 0);
        int[] lengths = {1, 999, 1000, 1001, 1900, 1901, 2800, 2801};
        int[] laps = {0, 0, 0, 1, 1, 2, 2, 3};
        for (int i = 0; i < lengths.length; i++) {
            run.does("leg(0, 0, " + lengths[i] + ")").due("lap(0, 100)", laps[i]);
        }
        run.does("leg(0, 0, 2000)").due("lap(0, 0)", 1).due("lap(0, 1)", 2).due("lap(0, 500)", 2).due("lap(0, 501)", 3);
    }

    /** Promise 17: the shortest gain by each bar more and the longest LENGTH. */
    private static void mostLaps() {
        Run run = new Run(CHECK, "the most laps").shape(SIX_LEGS);
        run.line(0, 10, 1, 20000, 20000, 20000, 20000, 20000, 20000);
        run.does("stock(10, 1, 0)").due("lap(0, 0)", 119999).does("stock(10, 5001, 1)").due("lap(0, 5000)", 114999);
        run.due("lap(0, 4999)", 57500).does("stock(10, 30000, 0)").due("lap(0, 0)", 3).due("lap(0, 5000)", 4);
    }

    /** Promise 17: "BAD: none such", of lines. */
    private static void linesOfLap() {
        Run run = Run.ordinary(CHECK, "lap: none such line").outsideInt("lap(#, 0)", 0, 3, -1);
        run.due("lap(0, 0)", 0).due("lap(3, 0)", 0);
        Run.full(CHECK, "lap: none such line of 12").outsideInt("lap(#, 0)", 0, 11, -1).due("lap(11, 0)", 0);
    }

    /** Promise 18: "by 162, in least terms", for each divisor of 162. */
    private static void weightInLeastTerms() {
        Run run = new Run(CHECK, "by 162, in least terms").shape("A").line(0, 5, 1, 1);
        int[] divisors = {1, 2, 3, 6, 9, 18, 27, 54, 81, 162};
        for (int divisor : divisors) {
            run.does("leg(0, 0, " + 7 * divisor + ")").due("weight(0, 0)", 175).due("weight(0, 1)", 162 / divisor);
        }
        run.does("leg(0, 0, 4)").due("weight(0, 0)", 50).due("weight(0, 1)", 81);
        run.does("leg(0, 0, 243)").due("weight(0, 0)", 75).due("weight(0, 1)", 2);
        run.does("leg(0, 0, 324)").due("weight(0, 0)", 50).due("weight(0, 1)", 1);
    }

    /** Promise 18, of a line whose LENGTH is 0: 0 by 162 is 0 by 1 in least terms. */
    private static void weightOfNothing() {
        Run run = new Run(CHECK, "the weight of nothing").shape("ALB").line(0, 7, 5);
        run.due("weight(0, 0)", 0).due("weight(0, 1)", 1);
        run.does("leg(0, 0, 10)", "rule(7, 11)").due("weight(0, 0)", 0).due("weight(0, 1)", 1);
        run.does("rule(7, 9)").due("weight(0, 0)", 245).due("weight(0, 1)", 162);
    }

    /** Promise 18: "diameter squared times their LENGTH times number", the greatest of each. */
    private static void heaviest() {
        Run run = new Run(CHECK, "the heaviest").shape(SIX_LEGS);
        run.line(0, 40, 5, 20000, 20000, 20000, 20000, 20000, 19999);
        run.due("weight(0, 0)", 1600L * 119999 * 5 / 2).due("weight(0, 1)", 81);
        run.line(0, 4, 1, 1).due("weight(1, 0)", 8).due("weight(1, 1)", 81);
    }

    /** Promise 18: "part 0 upper, 1 lower. BAD: none such". */
    private static void partsOfWeight() {
        Run.ordinary(CHECK, "part 0 upper, 1 lower").outsideInt("weight(0, #)", 0, 1, -1);
    }

    /** Promise 18: "BAD: none such", of lines. */
    private static void linesOfWeight() {
        Run run = Run.ordinary(CHECK, "weight: none such line").outsideInt("weight(#, 1)", 0, 3, -1);
        run.due("weight(3, 0)", 1600L * 993 * 3 / 18).due("weight(3, 1)", 9);
        Run.full(CHECK, "weight: none such line of 12").outsideInt("weight(#, 0)", 0, 11, -1);
    }

    /** Promise 19: "Sign i of a line's tag"; "BAD: none such". */
    private static void signsOfTag() {
        Run run = Run.ordinary(CHECK, "Sign i of a line's tag");
        dueTag(run, 0, "2x10:ALB");
        dueTag(run, 1, "1x10:A");
        dueTag(run, 2, "1x4:AUBRC");
        run.outsideInt("tag(0, #)", 0, 7, -1).outsideInt("tag(1, #)", 0, 5, -1).outsideInt("tag(2, #)", 0, 8, -1);
    }

    /** Promise 19: "number, x, diameter, :, shape", of one digit and of two. */
    private static void digitsOfTag() {
        Run run = new Run(CHECK, "number, x, diameter, :, shape").shape("A").shape(SIX_LEGS);
        int[] diameters = {4, 9, 10, 11, 19, 20, 39, 40};
        for (int line = 0; line < diameters.length; line++) {
            run.line(line % 2, diameters[line], 1 + line % 5);
            dueTag(run, line, (1 + line % 5) + "x" + diameters[line] + ":" + (line % 2 == 0 ? "A" : SIX_LEGS));
        }
    }

    private static void dueTag(Run run, int line, String tag) {
        for (int i = 0; i < tag.length(); i++) {
            run.due("tag(" + line + ", " + i + ")", tag.charAt(i));
        }
        run.due("tag(" + line + ", " + tag.length() + ")", -1);
    }

    /** Promise 19: "BAD: none such", of lines. */
    private static void linesOfTag() {
        Run.ordinary(CHECK, "tag: none such line").outsideInt("tag(#, 0)", 0, 3, -1).due("tag(3, 0)", '3');
        Run.full(CHECK, "tag: none such line of 12").outsideInt("tag(#, 0)", 0, 11, -1).due("tag(11, 0)", '5');
    }

    /** Promise 20: "The k-th thing (from 0) in which two lines differ"; "BAD: there is none". */
    private static void differsFrom0() {
        Run run = new Run(CHECK, "The k-th thing (from 0)").shape("A").shape(SIX_LEGS);
        run.line(0, 10, 1).line(1, 11, 2, 1, 2, 3, 4, 5, 6);
        for (int k = 0; k < 9; k++) {
            run.due("differs(0, 1, " + k + ")", k).due("differs(1, 0, " + k + ")", k);
        }
        run.outsideInt("differs(0, 1, #)", 0, 8, -1).outsideInt("differs(1, 0, #)", 0, 8, -1);
    }

    /** Promise 20: "0 shape (by its number)". */
    private static void differsByNumberOfShape() {
        Run run = new Run(CHECK, "shape (by its number)").shape("ALB").shape("ALB");
        run.line(0, 10, 1, 5, 6).line(1, 10, 1, 5, 6).due("differs(0, 1, 0)", 0);
        run.outsideInt("differs(0, 1, #)", 0, 0, -1);
    }

    /** Promise 20: "3 and on the legs (of one that has fewer, 0 counts)". */
    private static void differsWithFewerLegs() {
        Run run = new Run(CHECK, "of one that has fewer, 0 counts").shape("A").shape("ALBLC");
        run.line(0, 10, 1, 5).line(1, 10, 1, 5).due("differs(0, 1, 0)", 0).due("differs(0, 1, 1)", -1);
        run.does("leg(1, 2, 1)").due("differs(0, 1, 1)", 5).due("differs(1, 0, 1)", 5).due("differs(0, 1, 2)", -1);
        run.does("leg(1, 1, 1)").due("differs(0, 1, 1)", 4).due("differs(0, 1, 2)", 5).due("differs(0, 1, 3)", -1);
    }

    /** Promise 20: "BAD: there is none", of equal lines and of a line and itself. */
    private static void differsNotAtAll() {
        Run run = new Run(CHECK, "differs: there is none").shape("ALB").line(0, 10, 2, 5, 6).line(0, 10, 2, 5, 6);
        run.does("place(0, 1, 2, 3)");
        for (int k = -1; k <= 3; k++) {
            run.due("differs(0, 1, " + k + ")", -1).due("differs(0, 0, " + k + ")", -1);
        }
    }

    /** Promise 20: "BAD: there is none", of lines. */
    private static void linesOfDiffers() {
        Run run = Run.ordinary(CHECK, "differs: none such line");
        run.outsideInt("differs(#, 1, 0)", 0, 3, -1).outsideInt("differs(1, #, 0)", 0, 3, -1);
        run.outsideInt("differs(#, #, 0)", 0, 3, -1).due("differs(0, 3, 0)", 1).due("differs(3, 0, 0)", 1);
        Run full = Run.full(CHECK, "differs: none such line of 12");
        full.outsideInt("differs(#, 11, 0)", 0, 11, -1).outsideInt("differs(11, #, 0)", 0, 11, -1);
    }

    /** Promise 21: "Which line is bent as the k-th"; "BAD: none such", of none, some and 12 lines. */
    private static void orderFrom0() {
        new Run(CHECK, "order: no line").refused("order(0)", -1).refused("order(-1)", -1);
        Run run = Run.ordinary(CHECK, "order: none such").outsideInt("order(#)", 0, 3, -1);
        run.due("order(0)", 2).due("order(1)", 0).due("order(2)", 1).due("order(3)", 3);
        Run full = Run.full(CHECK, "order: none such of 12").outsideInt("order(#)", 0, 11, -1);
        full.due("order(0)", 0).due("order(1)", 10).due("order(2)", 1).due("order(10)", 9).due("order(11)", 11);
    }

    /** Promise 21: "then by line". */
    private static void orderOfEqualLines() {
        Run run = new Run(CHECK, "then by line").shape("A");
        for (int line = 0; line < 12; line++) {
            run.line(0, 10, 5 - line % 5, 100 - line);
        }
        for (int k = 0; k < 12; k++) {
            run.due("order(" + k + ")", k);
        }
    }

    /** Promise 21: "by diameter, then by the number of the shape", the ends of both. */
    private static void orderAtItsEnds() {
        Run run = new Run(CHECK, "by diameter, then by the number of the shape");
        for (int i = 0; i < 10; i++) {
            run.shape("A");
        }
        run.line(0, 40, 1).line(9, 40, 1).line(9, 4, 1).line(0, 4, 1).line(8, 39, 1).line(9, 5, 1);
        int[] want = {3, 2, 5, 4, 0, 1, -1};
        for (int k = 0; k < want.length; k++) {
            run.due("order(" + k + ")", want[k]);
        }
    }
}
