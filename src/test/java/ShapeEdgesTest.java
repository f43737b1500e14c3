/** The boundary cases of promises 1 to 3, and what "Terms" says of shapes: a test for each sentence. */
public final class ShapeEdgesTest {
    private static final Check CHECK = new Check("ShapeEdgesTest");
    private static final String SIX_LEGS = "ALBRCUDLERF";

    public static void main(String[] args) {
        newObjectHasNothing();
        nothingIsCutAtFirst();
        signFrom32To126();
        everySignFrom32To126();
        atMost40Signs();
        refusedSignIsNotCollected();
        atLeastOneLeg();
        atMostSixLegs();
        behindTheSixthLeg();
        legsInOrder();
        bendsAreThree();
        legAndBendTakeTurns();
        endsTooEarly();
        firstWrongSignOfSeveral();
        wrongSignOf40();
        goneAlsoIfNot();
        wrongTextIsNoShape();
        atMost10Shapes();
        wrongTextBehind10Shapes();
        CHECK.end();
    }

    /** Promise 1: "No shapes, rules, lines, stock". */
    private static void newObjectHasNothing() {
        Run run = new Run(CHECK, "No shapes, rules, lines, stock");
        run.refused("shape()", -1);
        run.refused("bar(0, 4, 1)", -1).refused("bar(0, 40, 5)", -1);
        run.refused("leg(0, 0, 1)", 0).refused("place(0, 0, 0, 0)", 0);
        for (String call : new String[] {"length(0, 0)", "command(0, 0)", "clash(0, 1)", "lap(0, 0)",
            "weight(0, 0)", "tag(0, 0)", "differs(0, 0, 0)", "differs(0, 1, 0)", "order(0)"}) {
            run.refused(call, -1);
        }
        run.dueShape("ALB", 0);
        for (int diameter = 4; diameter <= 40; diameter += 4) {
            run.due("bar(0, " + diameter + ", 1)", diameter / 4 - 1);
            run.does("leg(" + (diameter / 4 - 1) + ", 0, 100)");
            run.due("length(" + (diameter / 4 - 1) + ", 0)", 100);
            run.due("lap(" + (diameter / 4 - 1) + ", 0)", -1);
        }
        run.due("run(8)", -1);
    }

    /** Promise 1: "nothing is cut". */
    private static void nothingIsCutAtFirst() {
        new Run(CHECK, "nothing is cut").dueNothingCut();
    }

    /** Promise 2: "A sign of 32 .. 126 is collected"; "False: another one". */
    private static void signFrom32To126() {
        Run.ordinary(CHECK, "A sign of 32 .. 126 is collected").intRange("unit(#)", 32, 126, 1, 0);
        new Run(CHECK, "A sign of 32 .. 126, the first one").intRange("unit(#)", 32, 126, 1, 0);
    }

    /** Promise 2: "A sign of 32 .. 126 is collected", one by one. */
    private static void everySignFrom32To126() {
        for (int u = 0; u <= 300; u++) {
            Run run = new Run(CHECK, "A sign of 32 .. 126 is collected");
            boolean sign = u >= 32 && u <= 126;
            run.does("unit(65)", "unit(76)").due("unit(" + u + ")", sign);
            // Two signs alone end too early; three are a shape, or the third is wrong.
            run.due("shape()", u == 'B' ? 0 : -3);
            run.does("unit(" + u + ")").due("shape()", u == 'A' ? 0 : -1);
        }
    }

    /** Promise 2: "at most 40"; "False: .. no room". */
    private static void atMost40Signs() {
        Run run = new Run(CHECK, "at most 40 signs");
        run.text(SIX_LEGS);
        for (int i = SIX_LEGS.length(); i < 40; i++) {
            run.due("unit(32)", true);
        }
        run.refused("unit(32)", 0).refused("unit(126)", 0).refused("unit(65)", 0).refused("unit(31)", 0);
        run.due("unit(76)", false).due("unit(76)", false);
        run.due("shape()", -1 - SIX_LEGS.length());
        for (int i = 0; i < 40; i++) {
            run.due("unit(66)", true);
        }
        run.due("unit(66)", false).due("shape()", -1).dueShape("A", 0);
        Run full = Run.full(CHECK, "at most 40 signs, all else full too");
        full.refused("unit(32)", 0).refused("unit(65)", 0).refused("unit(126)", 0);
    }

    /** Promise 2: "False: another one" leaves what was collected before and what comes behind. */
    private static void refusedSignIsNotCollected() {
        Run run = new Run(CHECK, "another sign is not collected");
        run.does("unit(31)", "unit(65)", "unit(127)", "unit(76)", "unit(-1)", "unit(66)", "unit(" + (67 + 256) + ")");
        run.due("shape()", 0);
    }

    /** Terms: "A SHAPE is a text: a leg, and any number of times a bend and a leg". */
    private static void atLeastOneLeg() {
        Run run = new Run(CHECK, "a leg, and any number of times a bend and a leg");
        run.dueShape("", -1);
        run.dueShape("A", 0);
        run.dueShape("ALB", 1);
        run.dueShape("ALBLC", 2);
        run.dueShape("ALBLCLD", 3);
        run.dueShape("ALBLCLDLE", 4);
        run.dueShape("ALBLCLDLELF", 5);
    }

    /** Terms: "at most 6 legs"; promise 3: "a seventh leg may not". */
    private static void atMostSixLegs() {
        Run run = new Run(CHECK, "at most 6 legs");
        run.dueShape(SIX_LEGS, 0);
        run.dueShape(SIX_LEGS + "LG", -13);
        run.dueShape(SIX_LEGS + "LGLH", -13);
        run.line(0, 10, 1).due("leg(0, 5, 1)", true).due("leg(0, 6, 1)", false);
    }

    /** Terms: "of a bend behind the sixth what follows is wrong, or that it ends". */
    private static void behindTheSixthLeg() {
        Run run = new Run(CHECK, "of a bend behind the sixth what follows is wrong, or that it ends");
        for (String bend : new String[] {"L", "R", "U"}) {
            run.dueShape(SIX_LEGS + bend, -13);
            for (String next : new String[] {"A", "F", "G", "L", "U", " ", "~"}) {
                run.dueShape(SIX_LEGS + bend + next, -13);
            }
        }
        for (String noBend : new String[] {"G", "F", "A", "X", " ", "l"}) {
            run.dueShape(SIX_LEGS + noBend, -12);
        }
    }

    /** Terms: "Legs are the letters A, B, .. in order". */
    private static void legsInOrder() {
        for (int k = 0; k < 6; k++) {
            Run run = new Run(CHECK, "Legs are the letters A, B, .. in order");
            String before = SIX_LEGS.substring(0, 2 * k);
            for (char sign = '@'; sign <= 'H'; sign++) {
                boolean right = sign == 'A' + k;
                run.dueShape(before + sign, right ? 0 : -1 - 2 * k);
            }
            run.dueShape(before + (char) ('a' + k), -1 - 2 * k);
            run.dueShape(before + (char) ('A' + k), 1);
        }
    }

    /** Terms: "a BEND is L .., R .., or U". */
    private static void bendsAreThree() {
        for (int i = 1; i < SIX_LEGS.length(); i += 2) {
            for (char sign = 32; sign <= 126; sign++) {
                String text = SIX_LEGS.substring(0, i) + sign + SIX_LEGS.substring(i + 1);
                boolean bend = sign == 'L' || sign == 'R' || sign == 'U';
                new Run(CHECK, "a BEND is L, R or U").dueShape(text, bend ? 0 : -1 - i);
            }
        }
    }

    /** Terms: "a leg, and any number of times a bend and a leg": never two of a sort. */
    private static void legAndBendTakeTurns() {
        Run run = new Run(CHECK, "a leg, and any number of times a bend and a leg");
        run.dueShape("AB", -2).dueShape("ALLB", -3).dueShape("ALBC", -4).dueShape("L", -1).dueShape("LA", -1);
        run.dueShape("ALBLA", -5).dueShape("ALULB", -3).dueShape("A L B", -2).dueShape(" A", -1).dueShape("A ", -2);
    }

    /** Promise 3: "if it ends too early, .. the one behind the last". */
    private static void endsTooEarly() {
        Run run = new Run(CHECK, "if it ends too early, the one behind the last");
        for (int length = 0; length <= 10; length += 2) {
            run.dueShape(SIX_LEGS.substring(0, length), -1 - length);
        }
    }

    /** Promise 3: "- 1 less the number (from 0) of its first sign that is wrong". */
    private static void firstWrongSignOfSeveral() {
        Run run = new Run(CHECK, "- 1 less the number (from 0) of its first sign that is wrong");
        run.dueShape("XXX", -1).dueShape("AXX", -2).dueShape("ALX", -3).dueShape("ALXX", -3);
        run.dueShape("ALBXX", -4).dueShape("ALBRX", -5).dueShape("ALBRCXXX", -6).dueShape("XLB", -1);
    }

    /** Promises 2 and 3: all of 40 signs, of which one alone is wrong for a shape. */
    private static void wrongSignOf40() {
        Run run = new Run(CHECK, "the first wrong one of 40 signs");
        run.dueShape(SIX_LEGS + "L".repeat(29), -13);
        run.dueShape("A".repeat(40), -2);
        run.dueShape(" ".repeat(40), -1);
        run.dueShape("A".repeat(41), -2);
        run.dueShape(SIX_LEGS, 0);
    }

    /** Promise 3: "it is gone, also if not". */
    private static void goneAlsoIfNot() {
        Run run = new Run(CHECK, "it is gone, also if not");
        run.dueShape("ALB", 0).due("shape()", -1).dueShape("A", 1);
        run.dueShape("ALX", -3).due("shape()", -1).dueShape("A", 2);
        run.dueShape("AL", -3).dueShape("B", -1).dueShape("A", 3);
        for (int i = 4; i < 10; i++) {
            run.dueShape("A", i);
        }
        run.dueShape("ALB", -4).due("shape()", -1).dueShape("AL", -3).due("shape()", -1);
    }

    /** Promise 3: a text with a wrong sign does not become a shape. */
    private static void wrongTextIsNoShape() {
        Run run = new Run(CHECK, "a wrong text becomes no shape");
        run.shape("A").refused("shape()", -1);
        run.text("ALX").due("shape()", -3);
        run.due("bar(1, 10, 1)", -1).due("bar(0, 10, 1)", 0).dueShape("ALB", 1).due("bar(1, 10, 1)", 1);
    }

    /** Terms: "There are at most 10 shapes"; promise 3: "or there are 10 shapes, the one behind the last". */
    private static void atMost10Shapes() {
        Run run = new Run(CHECK, "or there are 10 shapes, the one behind the last");
        for (int i = 0; i < 10; i++) {
            run.due("bar(" + i + ", 4, 1)", -1).dueShape("A", i);
        }
        run.refused("shape()", -1);
        run.dueShape("A", -2).dueShape("ALB", -4).dueShape(SIX_LEGS, -12).dueShape("", -1);
        run.refused("bar(10, 4, 1)", -1).due("bar(9, 4, 1)", 0);
    }

    /** Promise 3: with 10 shapes the first sign that is wrong is still the first one. */
    private static void wrongTextBehind10Shapes() {
        Run run = new Run(CHECK, "its first sign that is wrong, with 10 shapes");
        for (int i = 0; i < 10; i++) {
            run.shape("A");
        }
        run.dueShape("AXB", -2).dueShape("AL", -3).dueShape("B", -1).dueShape(SIX_LEGS + "LG", -13);
    }
}
