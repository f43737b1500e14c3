/** The boundary cases of promises 14 to 16 (places, pictures, clashes): a test for each sentence. */
public final class PlaceEdgesTest {
    private static final Check CHECK = new Check("PlaceEdgesTest");
    private static final String SIX_LEGS = "ALBRCUDLERF";

    public static void main(String[] args) {
        placeFrom100000To100000();
        linesOfPlace();
        placeWithoutLegs();
        placeAgain();
        firstLegToGreaterX();
        pictureFrom0();
        pictureOfTheMostSteps();
        stepOfAnU();
        pictureInAnyPlace();
        pictureOfUntoldLegs();
        linesOfCommand();
        nearerThanTheHalf();
        theHalfOfAnOddNumber();
        nearerInAllDirections();
        leastAndGreatestDiameters();
        endsOfLegs();
        legsAloneCount();
        cornersOfThePlaces();
        linesOfClash();
        clashOfTheSame();
        clashOfLinesNotPlaced();
        clashOfUntoldLegs();
        CHECK.end();
    }

    /** Promise 14: "each - 100,000 .. 100,000"; "False: none such". */
    private static void placeFrom100000To100000() {
        Run run = Run.ordinary(CHECK, "each - 100,000 .. 100,000");
        run.longRange("place(0, #, 0, 0)", -100000, 100000, 1, 0);
        run.longRange("place(0, 0, #, 0)", -100000, 100000, 1, 0);
        run.longRange("place(0, 0, 0, #)", -100000, 100000, 1, 0);
        run.longRange("place(0, #, #, #)", -100000, 100000, 1, 0);
        run.refused("place(0, 100001, -100000, 100000)", 0).refused("place(0, -100000, 100000, -100001)", 0);
        // Line 3 is not placed, and a refused place leaves it so.
        run.longRange("place(3, 0, #, 0)", -100000, 100000, 1, 0);
        Run cut = new Run(CHECK, "no number is cut to an int").shape("A").line(0, 10, 1, 9).line(0, 10, 1, 9);
        cut.does("place(0, 0, 0, 0)", "place(1, 4294967296, 0, 0)", "place(1, 0, -4294967296, 0)");
        cut.does("place(1, 0, 0, 8589934592)").due("clash(0, 1)", -1);
    }

    /** Promise 14: "False: none such", of lines. */
    private static void linesOfPlace() {
        new Run(CHECK, "place: no line").refused("place(0, 0, 0, 0)", 0).shape("A").refused("place(0, 0, 0, 0)", 0);
        Run.ordinary(CHECK, "place: none such line").intRange("place(#, 7, 8, 9)", 0, 3, 1, 0);
        Run.full(CHECK, "place: none such line of 12").intRange("place(#, 7, 8, 9)", 0, 11, 1, 0);
    }

    /** Promise 14 names no legs: a line may be placed before its legs are told. */
    private static void placeWithoutLegs() {
        Run run = new Run(CHECK, "a place before the legs").shape("A").line(0, 10, 1).line(0, 10, 1, 5);
        run.due("place(0, 0, 0, 0)", true).due("place(1, 0, 0, 0)", true).due("clash(0, 1)", -1);
        run.does("leg(0, 0, 5)").due("clash(0, 1)", 1);
    }

    /** Promise 14: a line that is placed again lies at the new place. */
    private static void placeAgain() {
        Run run = pair("a place again", 10, 10);
        run.due("place(1, 0, 0, 0)", true).due("clash(0, 1)", 1).due("place(1, 0, 0, 10)", true).due("clash(0, 1)", 0);
        run.due("place(0, 0, 0, 1)", true).due("clash(0, 1)", 1);
    }

    /** Promise 14: "their first leg's beginning at x, y"; "the first leg goes to greater x". */
    private static void firstLegToGreaterX() {
        Run run = pair("the first leg goes to greater x", 10, 10);
        run.does("place(1, 109, 0, 0)").due("clash(0, 1)", 1).does("place(1, 110, 0, 0)").due("clash(0, 1)", 0);
        run.does("place(1, -109, 0, 0)").due("clash(0, 1)", 1).does("place(1, -110, 0, 0)").due("clash(0, 1)", 0);
        run.does("place(1, 0, 9, 0)").due("clash(0, 1)", 1).does("place(1, 0, 10, 0)").due("clash(0, 1)", 0);
        run.does("place(1, 0, -9, 0)").due("clash(0, 1)", 1).does("place(1, 0, -10, 0)").due("clash(0, 1)", 0);
    }

    /** Promise 15: "The i-th number of a line's picture"; "BAD: none such". */
    private static void pictureFrom0() {
        Run run = Run.ordinary(CHECK, "The i-th number of a line's picture");
        duePicture(run, 0, 300, 0, 0, 200);
        duePicture(run, 1, 150, 0);
        duePicture(run, 2, 50, 0, 0, 12, -60, 0, 0, 70);
        run.outsideInt("command(0, #)", 0, 3, -1).outsideInt("command(1, #)", 0, 1, -1);
        run.outsideInt("command(2, #)", 0, 7, -1);
    }

    /** Promise 15 with "at most 6 legs": eleven pairs are the most. */
    private static void pictureOfTheMostSteps() {
        Run run = new Run(CHECK, "the longest picture").shape("AUBUCUDUEUF").shape("ALBLCLDLELF");
        run.line(0, 40, 1, 20000, 1, 20000, 1, 20000, 1).line(1, 40, 1, 1, 2, 3, 4, 5, 6);
        duePicture(run, 0, 20000, 0, 0, 120, -1, 0, 0, -120, 20000, 0, 0, 120, -1, 0, 0, -120, 20000, 0, 0, 120, -1, 0);
        run.outsideInt("command(0, #)", 0, 21, -1);
        duePicture(run, 1, 1, 0, 0, 2, -3, 0, 0, -4, 5, 0, 0, 6);
        run.outsideInt("command(1, #)", 0, 11, -1);
    }

    /** Promise 15: "an U first steps three diameters to the left of the way so far", in all four ways. */
    private static void stepOfAnU() {
        Run run = new Run(CHECK, "an U first steps three diameters to the left").shape("AUB").shape("ALBUC");
        run.shape("ALBLCUD").shape("ARBUC").line(0, 4, 1, 9, 8).line(1, 40, 1, 9, 8, 7).line(2, 5, 1, 9, 8, 7, 6);
        run.line(3, 39, 1, 9, 8, 7);
        duePicture(run, 0, 9, 0, 0, 12, -8, 0);
        duePicture(run, 1, 9, 0, 0, 8, -120, 0, 0, -7);
        duePicture(run, 2, 9, 0, 0, 8, -7, 0, 0, -15, 6, 0);
        duePicture(run, 3, 9, 0, 0, -8, 117, 0, 0, 7);
    }

    /** Promise 15: "from its beginning on": wherever it lies, and placed or not. */
    private static void pictureInAnyPlace() {
        Run run = new Run(CHECK, "from its beginning on").shape("ALB").line(0, 10, 1, 30, 40);
        duePicture(run, 0, 30, 0, 0, 40);
        run.does("place(0, 100000, -100000, 100000)");
        duePicture(run, 0, 30, 0, 0, 40);
    }

    /** Promise 15: "BAD: .. the line's legs are not all told". */
    private static void pictureOfUntoldLegs() {
        for (int untold = 0; untold < 6; untold++) {
            Run run = new Run(CHECK, "the line's legs are not all told").shape(SIX_LEGS).line(0, 10, 1);
            for (int k = 0; k < 6; k++) {
                run.refused("command(0, 0)", -1);
                if (k != untold) {
                    run.does("leg(0, " + k + ", 5)");
                }
            }
            run.due("command(0, 0)", -1).due("command(0, 11)", -1).does("leg(0, " + untold + ", 5)");
            run.due("command(0, 0)", 5).due("command(0, 12)", -5).due("command(0, 14)", -1);
        }
    }

    private static void duePicture(Run run, int line, int... want) {
        for (int i = 0; i < want.length; i++) {
            run.due("command(" + line + ", " + i + ")", want[i]);
        }
        run.due("command(" + line + ", " + want.length + ")", -1);
    }

    /** Promise 15: "BAD: none such", of lines. */
    private static void linesOfCommand() {
        new Run(CHECK, "command: no line").refused("command(0, 0)", -1);
        Run.ordinary(CHECK, "command: none such line").outsideInt("command(#, 0)", 0, 2, -1);
        Run.full(CHECK, "command: none such line of 12").outsideInt("command(#, 0)", 1, 11, -1)
                .due("command(11, 0)", 500);
    }

    /** Promise 16: "come nearer than the half of both diameters together": just as near is no clash. */
    private static void nearerThanTheHalf() {
        Run run = pair("nearer than the half of both diameters together", 10, 12);
        dueClash(run, 0, 0, 0, 1);
        dueClash(run, 0, 0, 10, 1);
        dueClash(run, 0, 0, 11, 0);
        dueClash(run, 0, 0, -10, 1);
        dueClash(run, 0, 0, -11, 0);
        Run five = pair("nearer than five, which is three and four", 4, 6);
        dueClash(five, 0, 3, 4, 0);
        dueClash(five, 0, 4, 3, 0);
        dueClash(five, 0, 3, 3, 1);
        dueClash(five, 103, 4, 0, 0);
        dueClash(five, 103, 3, 0, 1);
        dueClash(five, 104, 0, 3, 0);
    }

    /** Promise 16: the half of an odd number is no whole one. */
    private static void theHalfOfAnOddNumber() {
        Run run = pair("the half of an odd number", 4, 5);
        dueClash(run, 0, 4, 0, 1);
        dueClash(run, 0, 5, 0, 0);
        // The square of 4 1/2 is 20 1/4.
        dueClash(run, 0, 4, 2, 1);
        dueClash(run, 102, 4, 0, 1);
        dueClash(run, 102, 4, 1, 0);
        dueClash(run, 0, 3, 3, 1);
        dueClash(run, 0, 4, 3, 0);
    }

    /** Promise 16, in x, y and z at once. */
    private static void nearerInAllDirections() {
        Run run = pair("in x, y and z at once", 4, 8);
        dueClash(run, 104, 4, 2, 0);
        dueClash(run, 104, 4, 1, 1);
        dueClash(run, -104, -4, -2, 0);
        dueClash(run, -104, -4, -1, 1);
        dueClash(run, 102, -4, 4, 0);
        dueClash(run, 101, -4, 4, 1);
    }

    /** Promise 16 with diameters of 4 and of 40. */
    private static void leastAndGreatestDiameters() {
        Run thin = pair("two of diameter 4", 4, 4);
        dueClash(thin, 0, 3, 0, 1);
        dueClash(thin, 0, 4, 0, 0);
        Run thick = pair("two of diameter 40", 40, 40);
        dueClash(thick, 0, 39, 0, 1);
        dueClash(thick, 0, 40, 0, 0);
        dueClash(thick, 0, 32, 24, 0);
        dueClash(thick, 0, 32, 23, 1);
    }

    /** Promise 16: "each as a straight row of points between its ends", both ends counting. */
    private static void endsOfLegs() {
        Run run = new Run(CHECK, "a straight row of points between its ends").shape("ALB").shape("A");
        run.line(0, 10, 1, 100, 100).line(1, 10, 1, 1).does("place(0, 0, 0, 0)");
        dueClash(run, 101, 109, 0, 1);
        dueClash(run, 100, 110, 0, 0);
        dueClash(run, 109, 50, 0, 1);
        dueClash(run, 110, 50, 0, 0);
        dueClash(run, 90, 50, 0, 1);
        dueClash(run, 89, 50, 0, 0);
        dueClash(run, 50, 50, 0, 0);
    }

    /** Promise 16: "their legs alone count": the step of an U does not. */
    private static void legsAloneCount() {
        Run run = new Run(CHECK, "their legs alone count").shape("AUB").shape("A");
        run.line(0, 40, 1, 100, 100).line(1, 4, 1, 100).does("place(0, 0, 0, 0)");
        dueClash(run, 0, 21, 0, 1);
        dueClash(run, 0, 22, 0, 0);
        dueClash(run, 50, 60, 0, 0);
        dueClash(run, 0, 98, 0, 0);
        dueClash(run, 0, 99, 0, 1);
        dueClash(run, 0, 141, 0, 1);
        dueClash(run, 0, 142, 0, 0);
    }

    /** Promises 14 and 16: the farthest places, and the longest ways from them. */
    private static void cornersOfThePlaces() {
        Run run = new Run(CHECK, "the corners of the places").shape("ALBRCLDRELF").shape("ARBLCRDLERF");
        run.line(0, 40, 1, 20000, 20000, 20000, 20000, 20000, 20000);
        run.line(1, 40, 1, 20000, 20000, 20000, 20000, 20000, 20000);
        run.does("place(0, 100000, 100000, 100000)", "place(1, -100000, -100000, -100000)").due("clash(0, 1)", 0);
        run.does("place(1, -100000, -100000, 100000)").due("clash(0, 1)", 0);
        run.does("place(1, 100000, 100000, -100000)").due("clash(0, 1)", 0);
        run.does("place(1, 100000, 100000, 99961)").due("clash(0, 1)", 1);
        run.does("place(1, 100000, 100000, 99960)").due("clash(0, 1)", 0);
        run.does("place(1, -100000, 100000, 100000)").due("clash(0, 1)", 0);
    }

    /** Promise 16: "BAD: none such". */
    private static void linesOfClash() {
        new Run(CHECK, "clash: no line").refused("clash(0, 1)", -1);
        Run run = Run.ordinary(CHECK, "clash: none such line").does("leg(3, 1, 5)", "place(3, 0, 0, 0)");
        run.outsideInt("clash(#, 1)", 0, 3, -1).outsideInt("clash(1, #)", 0, 3, -1).outsideInt("clash(#, #)", 0, 3, -1);
        run.due("clash(0, 3)", 1).due("clash(3, 0)", 1);
    }

    /** Promise 16: "BAD: .. the same". */
    private static void clashOfTheSame() {
        Run run = Run.ordinary(CHECK, "clash: the same");
        run.refused("clash(0, 0)", -1).refused("clash(1, 1)", -1).refused("clash(2, 2)", -1).refused("clash(3, 3)", -1);
        Run twins = pair("two lines that are alike are not the same", 10, 10).does("place(1, 0, 0, 0)");
        twins.due("clash(0, 1)", 1).due("clash(1, 0)", 1).due("clash(0, 0)", -1).due("clash(1, 1)", -1);
    }

    /** Promise 16: "BAD: .. not placed". */
    private static void clashOfLinesNotPlaced() {
        Run run = new Run(CHECK, "clash: not placed").shape("A").line(0, 10, 1, 5).line(0, 10, 1, 5);
        run.refused("clash(0, 1)", -1).does("place(0, 0, 0, 0)").refused("clash(0, 1)", -1).refused("clash(1, 0)", -1);
        run.does("place(1, 0, 0, 100001)").due("clash(0, 1)", -1).does("place(1, 0, 0, 0)").due("clash(0, 1)", 1);
    }

    /** Promise 16: "BAD: .. or legs are not all told". */
    private static void clashOfUntoldLegs() {
        for (int untold = 0; untold < 3; untold++) {
            Run run = new Run(CHECK, "clash: legs are not all told").shape("ALBRC").shape("A");
            run.line(0, 10, 1).line(1, 10, 1, 5).does("place(0, 0, 0, 0)", "place(1, 0, 0, 0)");
            for (int k = 0; k < 3; k++) {
                run.refused("clash(0, 1)", -1).refused("clash(1, 0)", -1);
                if (k != untold) {
                    run.does("leg(0, " + k + ", 5)");
                }
            }
            run.due("clash(0, 1)", -1).due("clash(1, 0)", -1).does("leg(0, " + untold + ", 5)");
            run.due("clash(0, 1)", 1).due("clash(1, 0)", 1);
        }
    }

    /** Two straight lines, 100 long, of which the first lies at 0, 0, 0. */
    private static Run pair(String sentence, int diameter, int other) {
        Run run = new Run(CHECK, sentence).shape("A").line(0, diameter, 1, 100).line(0, other, 5, 100);
        return run.does("place(0, 0, 0, 0)");
    }

    private static void dueClash(Run run, int x, int y, int z, int want) {
        run.does("place(1, " + x + ", " + y + ", " + z + ")").due("clash(0, 1)", want).due("clash(1, 0)", want);
    }
}
