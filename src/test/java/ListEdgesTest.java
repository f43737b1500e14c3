/** The boundary cases of promises 4 to 7, and what "Terms" says of rules and lines: a test for each sentence. */
public final class ListEdgesTest {
    private static final Check CHECK = new Check("ListEdgesTest");
    private static final String SIX_LEGS = "ALBRCUDLERF";

    public static void main(String[] args) {
        diametersOfRules();
        diametersOfLines();
        everyDiameter();
        ruleFrom0To500();
        ruleIs0AtFirst();
        ruleForEachQuarter();
        ruleOfItsDiameterAlone();
        barsFrom1To5();
        shapesOfLines();
        atMost12Lines();
        legFrom1To20000();
        legIs0AtFirst();
        legsOfALine();
        linesOfLegs();
        lengthNotLessThan0();
        lengthsAtTheirGreatest();
        partsOfLength();
        linesOfLength();
        CHECK.end();
    }

    /** Terms: "DIAMETERS are 4 .. 40"; promise 4: "False: no such diameter". */
    private static void diametersOfRules() {
        Run.ordinary(CHECK, "rule: no such diameter").intRange("rule(#, 5)", 4, 40, 1, 0);
        Run.full(CHECK, "rule: no such diameter").refused("rule(3, 0)", 0).refused("rule(41, 0)", 0);
    }

    /** Terms: "DIAMETERS are 4 .. 40"; promise 5: "BAD: no such .. diameter". */
    private static void diametersOfLines() {
        Run.ordinary(CHECK, "bar: no such diameter").intRange("bar(0, #, 1)", 4, 40, 4, -1);
    }

    /** Terms: "DIAMETERS are 4 .. 40", one by one, each with a rule and a stock of its own. */
    private static void everyDiameter() {
        for (int diameter = -41; diameter <= 300; diameter++) {
            boolean real = diameter >= 4 && diameter <= 40;
            Run run = new Run(CHECK, "DIAMETERS are 4 .. 40").shape("ALB");
            run.due("rule(" + diameter + ", 2)", real).due("stock(" + diameter + ", 100, 1)", real);
            run.due("bar(0, " + diameter + ", 1)", real ? 0 : -1).does("leg(0, 0, 100)");
            run.due("length(0, 0)", real ? 98 : -1).due("length(0, 3)", real ? diameter : -1);
            run.due("lap(0, 99)", real ? 0 : -1).due("run(8)", real ? 1 : 0).due("loss(0)", real ? 2 : 0);
        }
    }

    /** Promise 4: "A rule, 0 .. 500"; "False: no such .. number". */
    private static void ruleFrom0To500() {
        Run.ordinary(CHECK, "A rule, 0 .. 500").longRange("rule(10, #)", 0, 500, 1, 0);
        Run run = new Run(CHECK, "A rule, 0 .. 500").shape("ALB").line(0, 40, 1, 1000);
        run.does("rule(40, 500)").due("length(0, 0)", 500).does("rule(40, 501)").due("length(0, 0)", 500);
        run.does("rule(40, 0)").due("length(0, 0)", 1000).does("rule(40, -1)").due("length(0, 0)", 1000);
    }

    /** Terms: a rule is "0 at first". */
    private static void ruleIs0AtFirst() {
        Run run = new Run(CHECK, "a rule is 0 at first").shape(SIX_LEGS);
        run.line(0, 4, 1, 1).line(0, 22, 1, 1).line(0, 40, 1, 1);
        run.due("length(0, 0)", 1).due("length(1, 0)", 1).due("length(2, 0)", 1);
    }

    /** Terms: "L (to the left), R (to the right), each a quarter turn, or U (.. two quarters)". */
    private static void ruleForEachQuarter() {
        Run run = new Run(CHECK, "by how much each quarter of a bend shortens");
        run.shape("A").shape("ALB").shape("ARB").shape("AUB").shape("AUBUCUDUEUF").shape(SIX_LEGS);
        run.does("rule(10, 7)");
        int[] quarters = {0, 1, 1, 2, 10, 6};
        for (int shape = 0; shape < quarters.length; shape++) {
            run.line(shape, 10, 1, 1000).due("length(" + shape + ", 0)", 1000 - 7 * quarters[shape]);
        }
    }

    /** Terms: "A RULE says by how much each quarter of a bend shortens bars of a diameter". */
    private static void ruleOfItsDiameterAlone() {
        Run run = new Run(CHECK, "bars of a diameter").shape("ALB");
        run.line(0, 9, 1, 100).line(0, 10, 1, 100).line(0, 11, 1, 100).does("rule(10, 40)");
        run.due("length(0, 0)", 100).due("length(1, 0)", 60).due("length(2, 0)", 100);
    }

    /** Terms: "how many bars (1 .. 5)"; promise 5: "BAD: no such .. number". */
    private static void barsFrom1To5() {
        Run.ordinary(CHECK, "how many bars (1 .. 5)").intRange("bar(0, 10, #)", 1, 5, 4, -1);
        Run run = new Run(CHECK, "how many bars (1 .. 5)").shape("A").line(0, 4, 1).line(0, 4, 5);
        run.due("length(0, 1)", 1).due("length(1, 1)", 5);
    }

    /** Promise 5: "BAD: no such shape". */
    private static void shapesOfLines() {
        Run.ordinary(CHECK, "no such shape").intRange("bar(#, 10, 1)", 0, 2, 4, -1);
        Run ten = new Run(CHECK, "no such shape of ten");
        for (int i = 0; i < 10; i++) {
            ten.shape("A");
        }
        ten.intRange("bar(#, 10, 1)", 0, 9, 0, -1);
    }

    /** Terms: "there are at most 12"; promise 5: "BAD: .. there are 12". */
    private static void atMost12Lines() {
        Run run = new Run(CHECK, "there are 12").shape("A");
        for (int i = 0; i < 12; i++) {
            run.due("length(" + i + ", 1)", -1).due("bar(0, 10, 1)", i).due("length(" + i + ", 1)", 1);
        }
        run.refused("bar(0, 10, 1)", -1).refused("bar(0, 4, 5)", -1).refused("bar(0, 40, 6)", -1);
        Run.full(CHECK, "there are 12").refused("bar(0, 10, 1)", -1).refused("bar(9, 40, 5)", -1);
    }

    /** Terms: legs are "0 at first, then 1 .. 20,000"; promise 6: "False: none such". */
    private static void legFrom1To20000() {
        Run.ordinary(CHECK, "a leg 1 .. 20,000").longRange("leg(0, 0, #)", 1, 20000, 1, 0);
        // A leg that is not told yet stays so, and a told one can not be made untold.
        Run.ordinary(CHECK, "an untold leg 1 .. 20,000").longRange("leg(3, 1, #)", 1, 20000, 1, 0);
        Run run = new Run(CHECK, "a leg 1 .. 20,000").shape("ALB").line(0, 10, 1, 1, 20000);
        run.due("length(0, 2)", 20001).due("command(0, 0)", 1).due("command(0, 3)", 20000);
    }

    /** Terms: "the lengths of its legs (0 at first ..)". */
    private static void legIs0AtFirst() {
        Run run = new Run(CHECK, "legs are 0 at first").shape(SIX_LEGS).line(0, 10, 5);
        run.due("length(0, 0)", 0).due("length(0, 2)", 0).due("command(0, 0)", -1).due("weight(0, 0)", 0);
        for (int k = 5; k >= 0; k--) {
            run.due("leg(0, " + k + ", " + (k + 1) + ")", true);
        }
        run.due("length(0, 2)", 21).line(0, 10, 1).due("length(1, 2)", 0);
    }

    /** Promise 6: "Leg k of a line"; "False: none such", of lines with one leg, some and six. */
    private static void legsOfALine() {
        Run run = Run.ordinary(CHECK, "Leg k of a line");
        run.intRange("leg(0, #, 9)", 0, 1, 1, 0);
        run.intRange("leg(1, #, 9)", 0, 0, 1, 0);
        run.intRange("leg(2, #, 9)", 0, 2, 1, 0);
        run.does("shape()").shape(SIX_LEGS).line(3, 10, 1, 1, 1, 1, 1, 1, 1).intRange("leg(4, #, 9)", 0, 5, 1, 0);
        run.refused("leg(0, 2, 20001)", 0).refused("leg(0, -1, 0)", 0);
    }

    /** Promise 6: "False: none such", of lines. */
    private static void linesOfLegs() {
        Run.ordinary(CHECK, "leg: none such line").intRange("leg(#, 0, 9)", 0, 3, 1, 0);
        Run.full(CHECK, "leg: none such line of 12").intRange("leg(#, 0, 9)", 0, 11, 1, 0);
        new Run(CHECK, "leg: no line").refused("leg(0, 0, 9)", 0).shape("A").refused("leg(0, 0, 9)", 0);
    }

    /** Terms: "Its LENGTH is the sum of its legs, less what its bends shorten, but 0 if that is less". */
    private static void lengthNotLessThan0() {
        Run run = new Run(CHECK, "but 0 if that is less").shape("AUBLC").line(0, 10, 2, 100, 100, 100);
        run.does("rule(10, 99)").due("length(0, 0)", 3).does("rule(10, 100)").due("length(0, 0)", 0);
        run.does("rule(10, 101)").due("length(0, 0)", 0).does("rule(10, 500)").due("length(0, 0)", 0);
        run.due("length(0, 2)", 300).does("leg(0, 0, 1300)").due("length(0, 0)", 0);
        run.does("leg(0, 0, 1301)").due("length(0, 0)", 1).does("leg(0, 0, 1299)").due("length(0, 0)", 0);
        run.does("stock(10, 5, 5)").due("lap(0, 0)", 0).due("weight(0, 0)", 0).due("run(8)", -1);
        run.does("leg(0, 0, 1301)").due("lap(0, 0)", 0).due("weight(0, 0)", 100).due("run(8)", 1);
    }

    /** Terms: "at most 6 legs", each up to 20,000, and bends of up to ten quarters, each up to 500. */
    private static void lengthsAtTheirGreatest() {
        Run run = new Run(CHECK, "the greatest LENGTH").shape("AUBUCUDUEUF");
        run.line(0, 40, 5, 20000, 20000, 20000, 20000, 20000, 20000);
        run.due("length(0, 0)", 120000).does("rule(40, 500)").due("length(0, 0)", 115000).due("length(0, 2)", 120000);
        run.line(0, 40, 5, 1, 1, 1, 1, 1, 1).due("length(1, 0)", 0).due("length(1, 2)", 6);
    }

    /** Promise 7: parts 0 to 4; "BAD: none such". */
    private static void partsOfLength() {
        Run run = Run.ordinary(CHECK, "Of a line: 0 its length .. 4 its shape");
        run.due("length(0, 0)", 480).due("length(0, 1)", 2).due("length(0, 2)", 500).due("length(0, 3)", 10);
        run.due("length(2, 4)", 2).due("length(3, 4)", 0);
        run.outsideInt("length(0, #)", 0, 4, -1);
    }

    /** Promise 7: "BAD: none such", of lines. */
    private static void linesOfLength() {
        Run run = Run.ordinary(CHECK, "length: none such line").outsideInt("length(#, 2)", 0, 3, -1);
        run.due("length(0, 2)", 500).due("length(3, 2)", 1000);
        Run full = Run.full(CHECK, "length: none such line of 12").outsideInt("length(#, 2)", 0, 11, -1);
        full.due("length(0, 2)", 100).due("length(11, 2)", 1000);
    }
}
