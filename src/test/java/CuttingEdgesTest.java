/** The boundary cases of promises 8 to 13, and what "Terms" says of stock and cutting: a test for each sentence. */
public final class CuttingEdgesTest {
    private static final Check CHECK = new Check("CuttingEdgesTest");

    public static void main(String[] args) {
        diametersOfStock();
        stockFrom1To30000();
        barsFrom0To20();
        atMost3Kinds();
        allBarsOfAKind();
        nodesFrom0To8();
        otherNodesChangeNothing();
        asManyPiecesAsNodes();
        nodesOfEachDiameter();
        withoutPieces();
        pieceFindsNoBar();
        pieceFindsNoBarInALaterRun();
        pieceOfTheLength0();
        oneDiameterOfSeveral();
        longEnoughForItsPieces();
        longestPieceAndStock();
        mostPiecesAndBars();
        orderOfPieces();
        piecesByTheirLength();
        leastLengthOfStock();
        fewestBars();
        kindToldFirst();
        rowWithTheLesserPiece();
        rowThatGoesOn();
        barsByTheirFirstPieces();
        firstBarDecides();
        firstBarWithRoom();
        leastStockThatIsEnough();
        aBarIsLeft();
        equalKinds();
        partsOfLoss();
        nothingIsLeftOver();
        partsOfBound();
        boundCountsFirstRule();
        provedAll();
        barsOfPattern();
        numbersOfPattern();
        diameterByDiameter();
        goneWithRuleBarLegStock();
        refusedCallsKeepWhatWasCut();
        CHECK.end();
    }

    /** Promise 8: "False: none such", of diameters (Terms: "DIAMETERS are 4 .. 40"). */
    private static void diametersOfStock() {
        Run.ordinary(CHECK, "stock: no such diameter").intRange("stock(#, 500, 5)", 4, 40, 1, 0);
        new Run(CHECK, "stock: no such diameter").intRange("stock(#, 500, 5)", 4, 40, 1, 0);
    }

    /** Promise 8: "1 .. 30,000 long". */
    private static void stockFrom1To30000() {
        Run.ordinary(CHECK, "1 .. 30,000 long").longRange("stock(10, #, 5)", 1, 30000, 1, 0);
        Run run = lengths("1 .. 30,000 long", 1).does("stock(10, 1, 1)", "stock(10, 30000, 1)");
        run.due("run(8)", 1).due("loss(1)", 1).does("leg(0, 0, 2)").due("run(8)", 1).due("loss(1)", 30000);
    }

    /** Promise 8: "0 .. 20 bars". */
    private static void barsFrom0To20() {
        Run.ordinary(CHECK, "0 .. 20 bars").intRange("stock(10, 500, #)", 0, 20, 1, 0);
        Run none = lengths("0 bars", 5).does("stock(10, 9, 0)").due("run(8)", -1).due("run(0)", -1);
        none.does("stock(10, 9, 1)").due("run(8)", 1).due("run(0)", 1);
        Run run = new Run(CHECK, "20 bars").shape("A");
        run.line(0, 10, 5, 9).line(0, 10, 5, 9).line(0, 10, 5, 9).line(0, 10, 5, 9).does("stock(10, 10, 20)");
        run.due("run(8)", 20).due("loss(0)", 20).line(0, 10, 1, 9).due("run(8)", -1);
        run.does("leg(4, 0, 1)").due("run(8)", 20).due("loss(0)", 19);
    }

    /** Terms: "STOCK of a diameter are at most 3 KINDS"; promise 8: "there are 3 of this diameter". */
    private static void atMost3Kinds() {
        Run run = lengths("there are 3 of this diameter", 7);
        run.due("stock(10, 5, 1)", true).due("stock(10, 6, 20)", true).due("stock(10, 6, 0)", true);
        run.refused("stock(10, 7, 1)", 0).refused("stock(10, 6, 1)", 0).due("run(8)", -1);
        run.due("stock(9, 7, 1)", true).due("stock(11, 7, 1)", true).due("run(8)", -1).due("lap(0, 0)", 1);
        Run.full(CHECK, "there are 3 of this diameter").refused("stock(10, 30000, 20)", 0).refused("stock(10, 1, 0)", 0);
        Run refused = lengths("a refused kind is none of the 3", 7);
        refused.does("stock(10, 0, 1)", "stock(10, 30001, 1)", "stock(10, 9, -1)", "stock(10, 9, 21)");
        refused.due("stock(10, 5, 1)", true).due("stock(10, 6, 1)", true).due("stock(10, 7, 1)", true);
        refused.due("stock(10, 8, 1)", false).due("run(8)", 1);
    }

    /** Terms: a kind is "a length and how many bars there are": all of them, and no more. */
    private static void allBarsOfAKind() {
        Run run = lengths("how many bars there are", 6, 6, 6, 6, 6, 6);
        run.does("stock(10, 7, 2)", "stock(10, 8, 2)").due("run(8)", -1).due("run(0)", -1);
        run.does("stock(10, 9, 2)").due("run(8)", 6).dueBars("10/7: 0; 10/7: 1; 10/8: 2; 10/8: 3; 10/9: 4; 10/9: 5");
        run.due("run(0)", 6).dueBars("10/7: 0; 10/7: 1; 10/8: 2; 10/8: 3; 10/9: 4; 10/9: 5");
        run.due("run(8)", 6).due("run(0)", 6);
    }

    /** Promise 9: "with NODES 0 .. 8". */
    private static void nodesFrom0To8() {
        Run run = Run.ordinary(CHECK, "with NODES 0 .. 8").longRange("run(#)", 0, 8, 5, -1);
        for (int nodes = 0; nodes <= 8; nodes++) {
            run.due("run(" + nodes + ")", 5);
        }
        new Run(CHECK, "with NODES 0 .. 8, without pieces").longRange("run(#)", 0, 8, 0, -1);
    }

    /** Promise 9: "BAD: other NODES (that changes nothing)". */
    private static void otherNodesChangeNothing() {
        for (String nodes : new String[] {"-1", "9", "4294967296", "4294967304", "-4294967288"}) {
            Run run = lengths("other NODES (that changes nothing)", 6, 5, 4);
            run.does("stock(10, 10, 3)").due("run(" + nodes + ")", -1).dueNothingCut();
            run.due("run(3)", 2).due("run(" + nodes + ")", -1).due("loss(0)", 5).due("proved()", true);
            run.dueBars("10/10: 0 2; 10/10: 1").due("run(2)", 2).due("run(" + nodes + ")", -1);
            run.due("proved()", false).due("bound(1)", 0).due("loss(1)", 20).does("leg(0, 0, 11)");
            run.due("run(8)", -1).due("run(" + nodes + ")", -1).dueNothingCut();
        }
    }

    /** Terms: "With at most NODES pieces": as many, and one more. */
    private static void asManyPiecesAsNodes() {
        for (int pieces = 1; pieces <= 9; pieces++) {
            Run run = new Run(CHECK, "With at most NODES pieces").shape("A");
            run.line(0, 10, Math.min(pieces, 5), 3);
            if (pieces > 5) {
                run.line(0, 10, pieces - 5, 3);
            }
            run.does("stock(10, 4, 20)");
            for (int nodes = 0; nodes <= 8; nodes++) {
                run.due("run(" + nodes + ")", pieces).due("proved()", pieces <= nodes);
                run.due("bound(1)", pieces <= nodes ? 1 : 0);
            }
        }
        // Five pieces which the second rule cuts from more stock than the first.
        Run run = lengths("With at most NODES pieces", 6, 5, 4, 3, 2).does("stock(10, 10, 5)", "stock(10, 6, 5)");
        run.does("run(5)").dueBars("10/10: 0 2; 10/10: 1 3 4").does("run(4)").dueBars("10/6: 0; 10/6: 1; 10/6: 2 4; 10/6: 3");
    }

    /** Terms: "For each diameter ..: its PIECES": NODES is held against the pieces of one diameter. */
    private static void nodesOfEachDiameter() {
        Run run = new Run(CHECK, "NODES and the pieces of each diameter").shape("A");
        run.line(0, 4, 5, 3).line(0, 4, 3, 3).line(0, 5, 5, 3).line(0, 5, 4, 3).line(0, 6, 1, 3);
        run.does("stock(4, 9, 20)", "stock(5, 9, 20)", "stock(6, 9, 20)");
        int[] first = {0, 1, 1, 1, 1, 1, 1, 1, 2};
        for (int nodes = 0; nodes <= 8; nodes++) {
            run.due("run(" + nodes + ")", 7).due("bound(1)", first[nodes]).due("proved()", false);
        }
    }

    /** Promise 9: "(Without pieces all is cut by no bars.)". */
    private static void withoutPieces() {
        Run run = new Run(CHECK, "Without pieces all is cut by no bars");
        dueEmptyCut(run);
        run.shape("A").does("stock(10, 100, 5)", "rule(10, 5)").dueNothingCut();
        dueEmptyCut(run);
        // A line always has bars, and the first one ends this.
        run.line(0, 10, 1).dueNothingCut().due("run(8)", -1).due("run(0)", -1);
    }

    private static void dueEmptyCut(Run run) {
        for (int nodes = 0; nodes <= 8; nodes += 8) {
            run.due("run(" + nodes + ")", 0).due("loss(0)", 0).due("loss(1)", 0).due("loss(2)", 0);
            run.due("bound(0)", 0).due("bound(1)", 0).due("proved()", true);
            run.due("pattern(0, 0)", -1).due("pattern(0, 3)", -1).due("pattern(-1, 0)", -1);
        }
    }

    /** Promise 9: "some piece finds no bar .. : nothing is cut then". */
    private static void pieceFindsNoBar() {
        for (int nodes = 0; nodes <= 8; nodes += 8) {
            Run run = lengths("some piece finds no bar", 6, 5).does("stock(10, 6, 1)");
            run.due("run(" + nodes + ")", -1).dueNothingCut().does("stock(10, 4, 20)");
            run.due("run(" + nodes + ")", -1).dueNothingCut().does("stock(10, 5, 1)").due("run(" + nodes + ")", 2);
            run.does("leg(0, 0, 7)").due("run(" + nodes + ")", -1).dueNothingCut();
        }
    }

    /** Promise 9: "nothing is cut then", also what an earlier run has cut: here only the first rule finds bars. */
    private static void pieceFindsNoBarInALaterRun() {
        Run run = lengths("nothing is cut then", 5, 4, 4, 3, 2, 2).does("stock(10, 10, 2)");
        run.due("run(6)", 2).due("loss(0)", 0).dueBars("10/10: 0 3 4; 10/10: 1 2 5");
        run.due("run(5)", -1).dueNothingCut().due("run(6)", 2).due("loss(0)", 0).due("proved()", true);
    }

    /** Promise 9: "or has the length 0". */
    private static void pieceOfTheLength0() {
        Run run = new Run(CHECK, "or has the length 0").shape("ALB").line(0, 10, 1).line(0, 12, 1, 5);
        run.does("stock(10, 100, 5)", "stock(12, 100, 5)").due("run(8)", -1).due("run(0)", -1).dueNothingCut();
        run.does("leg(0, 1, 9)").due("run(8)", 2).does("rule(10, 8)").due("run(8)", 2).due("run(0)", 2);
        run.does("rule(10, 9)").due("run(8)", -1).due("run(0)", -1).dueNothingCut();
        run.does("rule(10, 10)").due("run(8)", -1).dueNothingCut().does("rule(12, 5)", "rule(10, 0)");
        run.due("run(8)", -1).dueNothingCut().does("rule(12, 4)").due("run(8)", 2).due("loss(2)", 10);
    }

    /** Promise 9: if one diameter of several can not be cut, nothing is. */
    private static void oneDiameterOfSeveral() {
        for (int wanting : new int[] {4, 20, 40}) {
            Run run = new Run(CHECK, "one diameter of several").shape("A");
            run.line(0, 4, 1, 9).line(0, 20, 1, 9).line(0, 40, 1, 9);
            for (int diameter : new int[] {4, 20, 40}) {
                run.does("stock(" + diameter + ", 9, " + (diameter == wanting ? 0 : 1) + ")");
            }
            run.due("run(8)", -1).dueNothingCut().due("run(0)", -1).dueNothingCut();
            run.does("stock(" + wanting + ", 9, 1)").due("run(8)", 3).due("run(0)", 3);
        }
    }

    /** Terms: "each of which is long enough for its pieces together". */
    private static void longEnoughForItsPieces() {
        for (int nodes = 0; nodes <= 8; nodes += 8) {
            Run run = lengths("long enough for its pieces together", 6, 4).does("stock(10, 9, 2)");
            run.does("run(" + nodes + ")").dueBars("10/9: 0; 10/9: 1").does("leg(1, 0, 3)");
            run.does("run(" + nodes + ")").dueBars("10/9: 0 1").does("leg(0, 0, 9)");
            run.does("run(" + nodes + ")").dueBars("10/9: 0; 10/9: 1").does("leg(0, 0, 10)");
            run.due("run(" + nodes + ")", -1);
        }
    }

    /** Promises 6 and 8 together: the longest piece that stock can hold, and the longest there is. */
    private static void longestPieceAndStock() {
        for (int nodes = 0; nodes <= 8; nodes += 8) {
            Run run = new Run(CHECK, "the longest piece and stock").shape("ALBLCLDLELF");
            run.line(0, 40, 1, 20000, 10000).does("stock(40, 30000, 1)").due("run(" + nodes + ")", 1);
            run.due("loss(0)", 0).does("leg(0, 2, 1)").due("run(" + nodes + ")", -1);
            run.does("leg(0, 2, 20000)", "leg(0, 3, 20000)", "leg(0, 4, 20000)", "leg(0, 5, 20000)");
            run.due("run(" + nodes + ")", -1).dueNothingCut();
        }
    }

    /** Terms: 12 lines of 5 bars are 60 pieces, from 3 kinds of 20 bars. */
    private static void mostPiecesAndBars() {
        Run run = new Run(CHECK, "60 pieces").shape("A");
        for (int line = 0; line < 12; line++) {
            run.line(0, 10, 5, 10000);
        }
        run.does("stock(10, 30000, 20)", "stock(10, 19999, 20)", "stock(10, 10000, 20)").due("run(8)", 47);
        run.due("loss(1)", 20 * 10000 + 20 * 19999 + 7 * 30000).due("loss(2)", 600000).due("bound(0)", 600000);
        run.due("pattern(0, 1)", 10000).due("pattern(20, 1)", 19999).due("pattern(40, 1)", 30000);
        run.due("pattern(46, 2)", 2).due("pattern(46, 3)", 11).due("pattern(46, 5)", -1).due("pattern(47, 0)", -1);
        Run all = new Run(CHECK, "60 pieces of 60 bars").shape("A");
        for (int line = 0; line < 12; line++) {
            all.line(0, 10, 5, 10000);
        }
        all.does("stock(10, 10000, 20)", "stock(10, 10001, 20)", "stock(10, 19999, 20)").due("run(0)", 60);
        all.due("pattern(59, 0)", 10).due("pattern(59, 1)", 19999).due("pattern(59, 3)", 11).due("pattern(60, 0)", -1);
        all.due("loss(0)", 20 + 20 * 9999).does("leg(11, 0, 10002)").due("run(0)", 60);
    }

    /** Terms: pieces are "in the order of length, the greatest first, then of lines". */
    private static void orderOfPieces() {
        for (int nodes = 0; nodes <= 8; nodes += 8) {
            Run run = lengths("the greatest first, then of lines", 3, 5, 3, 5, 4).does("stock(10, 5, 20)");
            run.does("run(" + nodes + ")").dueBars("10/5: 1; 10/5: 3; 10/5: 4; 10/5: 0; 10/5: 2");
            run.does("stock(10, 20, 1)", "run(" + nodes + ")");
            run.dueBars(nodes == 0 ? "10/5: 1; 10/5: 3; 10/5: 4; 10/5: 0; 10/5: 2" : "10/20: 1 3 4 0 2");
        }
    }

    /** Terms: the order is that of LENGTH, not of the sum of legs. */
    private static void piecesByTheirLength() {
        for (int nodes = 0; nodes <= 8; nodes += 8) {
            Run run = new Run(CHECK, "in the order of length").shape("AUB").shape("A");
            run.line(0, 10, 1, 100, 100).line(1, 10, 1, 190).line(1, 10, 1, 180).does("rule(10, 5)", "stock(10, 190, 3)");
            run.does("run(" + nodes + ")").dueBars("10/190: 0; 10/190: 1; 10/190: 2").does("rule(10, 6)");
            run.does("run(" + nodes + ")").dueBars("10/190: 1; 10/190: 0; 10/190: 2").does("rule(10, 10)");
            run.does("run(" + nodes + ")").dueBars("10/190: 1; 10/190: 0; 10/190: 2").does("rule(10, 11)");
            run.does("run(" + nodes + ")").dueBars("10/190: 1; 10/190: 2; 10/190: 0");
        }
    }

    /** Terms: "of all ways the one with the least length of stock bars together", though of more bars. */
    private static void leastLengthOfStock() {
        Run run = lengths("the least length of stock bars together", 5, 5).does("stock(10, 11, 2)", "stock(10, 5, 2)");
        run.does("run(8)").dueBars("10/5: 0; 10/5: 1").due("loss(0)", 0);
        Run one = lengths("the least length, by one", 5, 5).does("stock(10, 10, 2)", "stock(10, 6, 2)", "stock(10, 9, 2)");
        one.does("run(8)").dueBars("10/10: 0 1");
    }

    /** Terms: "of these with the fewest of them". */
    private static void fewestBars() {
        Run run = lengths("of these with the fewest of them", 5, 5).does("stock(10, 5, 2)", "stock(10, 10, 1)");
        run.does("run(8)").dueBars("10/10: 0 1");
        Run two = lengths("of these with the fewest of them", 4, 4, 4).does("stock(10, 4, 3)", "stock(10, 8, 3)");
        two.does("run(8)").dueBars("10/4: 0; 10/8: 1 2");
    }

    /** Terms: "the stock kind that was told first". */
    private static void kindToldFirst() {
        Run run = lengths("the stock kind that was told first", 5, 3).does("stock(10, 6, 1)", "stock(10, 5, 1)");
        run.does("run(8)").dueBars("10/6: 0; 10/5: 1");
        Run other = lengths("the stock kind that was told first", 5, 3).does("stock(10, 5, 1)", "stock(10, 6, 1)");
        other.does("run(8)").dueBars("10/5: 0; 10/6: 1");
        // The kind comes before the pieces: 5 alone in the first, though 5 and 1 would go on.
        Run row = lengths("the kind, then the pieces", 5, 3, 1).does("stock(10, 5, 1)", "stock(10, 6, 1)");
        row.does("run(8)").dueBars("10/5: 0; 10/6: 1 2");
    }

    /** Terms: "the one that has the lesser piece .. where they differ first". */
    private static void rowWithTheLesserPiece() {
        Run run = lengths("the lesser piece where they differ first", 5, 4, 3, 2).does("stock(10, 9, 2)");
        run.does("run(8)").dueBars("10/9: 0 1; 10/9: 2 3");
        Run equal = lengths("the lesser piece of equal ones", 5, 4, 4, 4, 4).does("stock(10, 9, 1)", "stock(10, 12, 1)");
        equal.does("run(8)").dueBars("10/9: 0 1; 10/12: 2 3 4");
        // A row of fewer pieces with a lesser one comes before a longer row.
        Run shorter = lengths("the lesser piece, not the longer row", 5, 4, 2, 2, 1).does("stock(10, 9, 2)");
        shorter.does("run(8)").dueBars("10/9: 0 1; 10/9: 2 3 4");
    }

    /** Terms: "or goes on where the other ends". */
    private static void rowThatGoesOn() {
        Run run = lengths("or goes on where the other ends", 6, 2, 2, 2).does("stock(10, 10, 2)");
        run.does("run(8)").dueBars("10/10: 0 1 2; 10/10: 3");
        Run last = lengths("goes on with the very last", 8, 8, 1).does("stock(10, 9, 2)");
        last.does("run(8)").dueBars("10/9: 0 2; 10/9: 1");
        Run all = lengths("goes on to the end", 1, 1, 1, 1, 1, 1, 1, 1).does("stock(10, 7, 2)");
        all.does("run(8)").dueBars("10/7: 0 1 2 3 4 5 6; 10/7: 7");
    }

    /** Terms: "bars being in the order of their first pieces", whichever kind was told first. */
    private static void barsByTheirFirstPieces() {
        for (int nodes = 0; nodes <= 8; nodes += 8) {
            Run run = lengths("bars being in the order of their first pieces", 3, 6, 4);
            run.does("stock(10, 3, 1)", "stock(10, 4, 1)", "stock(10, 6, 1)");
            run.does("run(" + nodes + ")").dueBars("10/6: 1; 10/4: 2; 10/3: 0");
        }
    }

    /** Terms: "bars being in the order of their first pieces, .. bar by bar": the first bar that differs decides. */
    private static void firstBarDecides() {
        Run eight = lengths("bar by bar", 5, 5, 3, 3).does("stock(10, 8, 2)", "stock(10, 10, 1)", "stock(10, 6, 1)");
        eight.does("run(8)").dueBars("10/8: 0 2; 10/8: 1 3");
        Run ten = lengths("bar by bar", 5, 5, 3, 3).does("stock(10, 10, 1)", "stock(10, 8, 2)", "stock(10, 6, 1)");
        ten.does("run(8)").dueBars("10/10: 0 1; 10/6: 2 3");
        Run second = lengths("the second bar", 9, 5, 5, 3, 3).does("stock(10, 10, 2)", "stock(10, 8, 2)", "stock(10, 6, 1)");
        second.does("run(8)").dueBars("10/10: 0; 10/10: 1 2; 10/6: 3 4");
    }

    /** Terms: "each piece in order goes to the first bar opened so far in which it has room", also just room. */
    private static void firstBarWithRoom() {
        Run run = lengths("the first bar opened so far in which it has room", 7, 6, 4, 3).does("stock(10, 10, 4)");
        run.does("run(3)").dueBars("10/10: 0 3; 10/10: 1 2");
        run.does("leg(3, 0, 2)", "run(3)").dueBars("10/10: 0 3; 10/10: 1 2");
        run.does("leg(2, 0, 5)", "run(3)").dueBars("10/10: 0 3; 10/10: 1; 10/10: 2");
        // Neither the bar in which it fits best nor the one with the most room.
        Run best = lengths("the first bar, not the best", 7, 5, 1).does("stock(10, 11, 1)", "stock(10, 6, 1)");
        best.does("run(0)").dueBars("10/11: 0 2; 10/6: 1");
        Run widest = lengths("the first bar, not the widest", 9, 5, 1).does("stock(10, 10, 2)");
        widest.does("run(0)").dueBars("10/10: 0 2; 10/10: 1");
    }

    /** Terms: "the least stock length that is enough for it", also just enough, is opened. */
    private static void leastStockThatIsEnough() {
        Run run = lengths("the least stock length that is enough for it", 7);
        run.does("stock(10, 9, 5)", "stock(10, 6, 5)", "stock(10, 8, 5)").does("run(0)").dueBars("10/8: 0");
        run.does("leg(0, 0, 8)", "run(0)").dueBars("10/8: 0").does("leg(0, 0, 9)", "run(0)").dueBars("10/9: 0");
        run.does("leg(0, 0, 6)", "run(0)").dueBars("10/6: 0").does("leg(0, 0, 10)").due("run(0)", -1);
    }

    /** Terms: "of which a bar is left". */
    private static void aBarIsLeft() {
        Run run = lengths("of which a bar is left", 5, 5, 5, 5).does("stock(10, 9, 1)", "stock(10, 6, 1)", "stock(10, 7, 1)");
        run.due("run(0)", -1).dueNothingCut().due("run(8)", -1).does("leg(3, 0, 4)");
        run.does("run(0)").dueBars("10/6: 0; 10/7: 1; 10/9: 2 3");
        Run none = lengths("a kind without bars is not opened", 5).does("stock(10, 5, 0)", "stock(10, 8, 1)");
        none.does("run(0)").dueBars("10/8: 0").does("run(8)").dueBars("10/8: 0");
    }

    /** Terms: "of equal ones the kind told first": the bars of all of them are there. */
    private static void equalKinds() {
        for (int nodes = 0; nodes <= 8; nodes += 8) {
            Run run = lengths("of equal ones the kind told first", 5, 5, 5).does("stock(10, 6, 1)", "stock(10, 6, 1)");
            run.due("run(" + nodes + ")", -1).does("stock(10, 6, 1)").due("run(" + nodes + ")", 3).due("loss(1)", 18);
        }
    }

    /** Promise 10: parts 0, 1 and 2; "BAD: nothing is cut, none such". */
    private static void partsOfLoss() {
        Run run = Run.ordinary(CHECK, "loss: none such").outsideInt("loss(#)", 0, 2, -1);
        run.due("loss(0)", 35 + 490 + 21).does("rule(9, 0)").dueNothingCut();
        run.outsideInt("loss(#)", 0, 2, -1).refused("loss(0)", -1).refused("loss(1)", -1).refused("loss(2)", -1);
    }

    /** Promise 10: "what is left over of the bars used": nothing, and one. */
    private static void nothingIsLeftOver() {
        Run run = lengths("what is left over of the bars used", 6, 4).does("stock(10, 10, 5)", "run(8)");
        run.due("loss(0)", 0).due("loss(1)", 10).due("loss(2)", 10).does("leg(0, 0, 5)", "run(8)");
        run.due("loss(0)", 1).due("loss(1)", 10).due("loss(2)", 9);
    }

    /** Promise 11: parts 0 and 1; "BAD: nothing is cut, none such". */
    private static void partsOfBound() {
        Run run = Run.ordinary(CHECK, "bound: none such").outsideInt("bound(#)", 0, 1, -1);
        run.does("stock(9, 1, 1)").outsideInt("bound(#)", 0, 1, -1).refused("bound(0)", -1).refused("bound(1)", -1);
    }

    /** Promise 11: "of the last run, how many diameters were cut by the first rule". */
    private static void boundCountsFirstRule() {
        Run run = new Run(CHECK, "of the last run, how many diameters were cut by the first rule").shape("A");
        for (int line = 0; line < 12; line++) {
            run.line(0, 4 + 3 * line, 1 + line % 2, 5).does("stock(" + (4 + 3 * line) + ", 9, 5)");
        }
        run.due("run(8)", 18).due("bound(1)", 12).due("proved()", true).due("bound(0)", 90);
        run.due("run(1)", 18).due("bound(1)", 6).due("proved()", false).due("bound(0)", 90);
        run.due("run(0)", 18).due("bound(1)", 0).due("proved()", false).due("bound(0)", 90);
    }

    /** Promise 12: "Whether all diameters were cut by the first rule. False also: nothing is cut". */
    private static void provedAll() {
        Run run = new Run(CHECK, "Whether all diameters were cut by the first rule").due("proved()", false);
        run.due("run(0)", 0).due("proved()", true).shape("A").line(0, 4, 1, 5).due("proved()", false);
        run.does("stock(4, 9, 1)", "run(0)").due("proved()", false).does("run(1)").due("proved()", true);
        run.line(0, 40, 2, 5).does("stock(40, 9, 2)", "run(1)").due("proved()", false).does("run(2)").due("proved()", true);
        run.does("leg(1, 0, 10)").due("run(2)", -1).due("proved()", false);
    }

    /** Promise 13: "Of the k-th bar used"; "BAD: none such". */
    private static void barsOfPattern() {
        Run run = Run.ordinary(CHECK, "pattern: none such bar").outsideInt("pattern(#, 0)", 0, 4, -1);
        run.due("pattern(0, 0)", 4).due("pattern(4, 0)", 40).does("rule(9, 0)");
        run.refused("pattern(0, 0)", -1).refused("pattern(0, 3)", -1);
        // What a longer cut has left in the object is none of a shorter one.
        Run shorter = lengths("pattern: bars of an earlier run", 9, 9, 9).does("stock(10, 9, 3)").due("run(8)", 3);
        shorter.does("leg(0, 0, 3)", "leg(1, 0, 3)", "leg(2, 0, 3)").due("run(8)", 1).due("pattern(1, 0)", -1);
        shorter.due("pattern(0, 5)", 2).due("pattern(0, 6)", -1).due("pattern(2, 3)", -1);
    }

    /** Promise 13: "0 its diameter, 1 its length, 2 how many pieces, 3 and on the lines of its pieces". */
    private static void numbersOfPattern() {
        Run run = lengths("3 and on the lines of its pieces", 1, 2, 3, 4, 5, 6, 7, 8).does("stock(10, 36, 1)", "run(8)");
        int[] want = {10, 36, 8, 7, 6, 5, 4, 3, 2, 1, 0};
        for (int i = 0; i < want.length; i++) {
            run.due("pattern(0, " + i + ")", want[i]);
        }
        run.outsideInt("pattern(0, #)", 0, 10, -1);
        Run one = lengths("3 the line of its one piece", 9).does("stock(10, 9, 1)", "run(8)").due("pattern(0, 3)", 0);
        one.outsideInt("pattern(0, #)", 0, 3, -1);
    }

    /** Promise 13: "diameter by diameter", from the least on, of which the list has bars. */
    private static void diameterByDiameter() {
        Run run = new Run(CHECK, "diameter by diameter").shape("A");
        run.line(0, 40, 1, 9).line(0, 39, 1, 8).line(0, 5, 1, 7).line(0, 4, 1, 6);
        run.does("stock(40, 9, 1)", "stock(39, 8, 1)", "stock(5, 7, 1)", "stock(4, 6, 1)", "stock(20, 5, 20)");
        for (int nodes = 0; nodes <= 8; nodes += 8) {
            run.does("run(" + nodes + ")").dueBars("4/6: 3; 5/7: 2; 39/8: 1; 40/9: 0");
        }
    }

    /** Promise 4: "What was cut is gone (so with bar(), leg(), stock())", whatever they change. */
    private static void goneWithRuleBarLegStock() {
        for (String call : new String[] {"rule(10, 0)", "rule(30, 0)", "rule(4, 500)", "bar(0, 10, 1)", "bar(0, 30, 5)",
            "leg(0, 0, 5)", "leg(0, 0, 6)", "stock(10, 9, 0)", "stock(30, 1, 20)"}) {
            Run run = lengths("What was cut is gone with " + call, 5).does("stock(10, 9, 3)").due("run(8)", 1);
            run.due("loss(1)", 9).does(call).dueNothingCut();
        }
        for (String call : new String[] {"rule(4, 0)", "bar(0, 4, 1)", "stock(4, 1, 0)"}) {
            Run empty = new Run(CHECK, "What was cut by no bars is gone with " + call).shape("A");
            empty.due("run(8)", 0).due("proved()", true).does(call).dueNothingCut();
        }
    }

    /** Promises 4, 5, 6 and 8: a call that is refused changes nothing, so what was cut is not gone. */
    private static void refusedCallsKeepWhatWasCut() {
        String[] calls = {"rule(3, 0)", "rule(41, 0)", "rule(10, -1)", "rule(10, 501)", "bar(3, 10, 1)", "bar(-1, 10, 1)",
            "bar(0, 3, 1)", "bar(0, 41, 1)", "bar(0, 10, 0)", "bar(0, 10, 6)", "leg(0, 0, 0)", "leg(0, 0, 20001)",
            "leg(0, 2, 5)", "leg(4, 0, 5)", "leg(-1, 0, 5)", "stock(10, 0, 1)", "stock(10, 30001, 1)", "stock(10, 5, -1)",
            "stock(10, 5, 21)", "stock(3, 5, 5)", "stock(41, 5, 5)", "run(-1)", "run(9)", "unit(31)", "unit(127)"};
        Run run = Run.ordinary(CHECK, "refused calls keep what was cut");
        for (String call : calls) {
            run.does(call).due("loss(1)", 200 + 1600 + 3000).due("proved()", true);
        }
        run.does("place(0, 1, 1, 1)", "unit(65)", "shape()").shape("A").due("loss(1)", 200 + 1600 + 3000).due("proved()", true);
    }

    /** Straight lines of one bar of diameter 10 each. */
    private static Run lengths(String sentence, long... legs) {
        Run run = new Run(CHECK, sentence).shape("A");
        for (long leg : legs) {
            run.line(0, 10, 1, leg);
        }
        return run;
    }
}
