/**
 * Bars of steel for a bridge: shapes, the list of bars, their lengths, cutting them from stock,
 * laps, weights, tags, places, clashes and the order of bending.
 *
 * <p>All rows are made once, in the constructor, and used again by every call; only a new shape, a
 * new line and the first stock of a diameter make objects.
 */
public final class BarCutting {
    public static final int BAD = -1, NONE = -2;

    private static final int LEAST_SIGN = 32, GREATEST_SIGN = 126, MOST_SIGNS = 40;
    private static final int MOST_SHAPES = 10, MOST_LEGS = 6;
    private static final int LEAST_DIAMETER = 4, GREATEST_DIAMETER = 40;
    private static final int DIAMETERS = GREATEST_DIAMETER - LEAST_DIAMETER + 1;
    private static final int GREATEST_RULE = 500, GREATEST_LEG = 20000;
    private static final int MOST_LINES = 12, MOST_BARS_OF_LINE = 5;
    private static final int MOST_PIECES = MOST_LINES * MOST_BARS_OF_LINE;
    private static final int MOST_KINDS = 3, GREATEST_STOCK = 30000, MOST_BARS_OF_KIND = 20;
    private static final int MOST_NODES = 8;
    private static final int GREATEST_PLACE = 100000, GREATEST_LAP = 5000;
    private static final int WEIGHT_DIVISOR = 162;
    private static final int FIRST_LEG_THING = 3;
    private static final int FIRST_LINE_OF_PATTERN = 3;

    private final Signs signs = new Signs();
    private final Shape[] shapes = new Shape[MOST_SHAPES];
    private final Line[] lines = new Line[MOST_LINES];
    private final int[] rules = new int[DIAMETERS];
    private final Shelf[] shelves = new Shelf[DIAMETERS];
    private final Plan plan = new Plan();
    private final LeastWaste leastWaste = new LeastWaste();
    private final FirstFit firstFit = new FirstFit();
    private final Track track = new Track();
    private final Track otherTrack = new Track();
    private int shapeCount;
    private int lineCount;

    public BarCutting() {
        shapeCount = 0;
        lineCount = 0;
    }

    public boolean unit(int u) {
        return signs.collect(u);
    }

    public int shape() {
        int wrong = signs.firstWrong();
        int end = signs.count;
        Shape made = wrong < 0 && shapeCount < MOST_SHAPES ? signs.toShape() : null;
        signs.count = 0;
        if (made == null) {
            return -1 - (wrong < 0 ? end : wrong);
        }
        shapes[shapeCount] = made;
        shapeCount++;
        return shapeCount - 1;
    }

    public boolean rule(int diameter, long bend) {
        if (!isDiameter(diameter) || bend < 0 || bend > GREATEST_RULE) {
            return false;
        }
        rules[diameter - LEAST_DIAMETER] = (int) bend;
        plan.clear();
        return true;
    }

    public int bar(int shape, int diameter, int n) {
        if (shape < 0 || shape >= shapeCount || !isDiameter(diameter)) {
            return BAD;
        }
        if (n < 1 || n > MOST_BARS_OF_LINE || lineCount >= MOST_LINES) {
            return BAD;
        }
        lines[lineCount] = new Line(shape, shapes[shape], diameter, n);
        lineCount++;
        plan.clear();
        return lineCount - 1;
    }

    public boolean leg(int line, int k, long length) {
        Line at = lineAt(line);
        if (at == null || k < 0 || k >= at.shape.legs || length < 1 || length > GREATEST_LEG) {
            return false;
        }
        at.legs[k] = (int) length;
        plan.clear();
        return true;
    }

    public long length(int line, int part) {
        Line at = lineAt(line);
        if (at == null) {
            return BAD;
        }
        switch (part) {
            case 0:
                return cutLength(at);
            case 1:
                return at.bars;
            case 2:
                return at.sumOfLegs();
            case 3:
                return at.diameter;
            case 4:
                return at.shapeNumber;
            default:
                return BAD;
        }
    }

    public boolean stock(int diameter, long length, int n) {
        if (!isDiameter(diameter) || length < 1 || length > GREATEST_STOCK) {
            return false;
        }
        if (n < 0 || n > MOST_BARS_OF_KIND) {
            return false;
        }
        Shelf shelf = shelves[diameter - LEAST_DIAMETER];
        if (shelf == null) {
            shelf = new Shelf();
            shelves[diameter - LEAST_DIAMETER] = shelf;
        }
        if (!shelf.add((int) length, n)) {
            return false;
        }
        plan.clear();
        return true;
    }

    public int run(long nodes) {
        if (nodes < 0 || nodes > MOST_NODES) {
            return BAD;
        }
        plan.clear();
        for (int diameter = LEAST_DIAMETER; diameter <= GREATEST_DIAMETER; diameter++) {
            if (!cutDiameter(diameter, (int) nodes)) {
                plan.clear();
                return BAD;
            }
        }
        plan.done = true;
        return plan.bars;
    }

    public long loss(int part) {
        if (!plan.done) {
            return BAD;
        }
        switch (part) {
            case 0:
                return plan.sumOfBars() - plan.sumOfPieces();
            case 1:
                return plan.sumOfBars();
            case 2:
                return plan.sumOfPieces();
            default:
                return BAD;
        }
    }

    public long bound(int part) {
        if (!plan.done) {
            return BAD;
        }
        switch (part) {
            case 0:
                return plan.sumOfPieces();
            case 1:
                return plan.leastWasteDiameters;
            default:
                return BAD;
        }
    }

    public boolean proved() {
        return plan.done && plan.leastWasteDiameters == plan.diameters;
    }

    public int pattern(int k, int i) {
        if (!plan.done || k < 0 || k >= plan.bars) {
            return BAD;
        }
        switch (i) {
            case 0:
                return plan.barDiameter[k];
            case 1:
                return plan.barSize[k];
            case 2:
                return plan.barPieces[k];
            default:
                return i < FIRST_LINE_OF_PATTERN ? BAD : plan.lineOfPiece(k, i - FIRST_LINE_OF_PATTERN);
        }
    }

    public boolean place(int line, long x, long y, long z) {
        Line at = lineAt(line);
        if (at == null || !isPlace(x) || !isPlace(y) || !isPlace(z)) {
            return false;
        }
        at.x = (int) x;
        at.y = (int) y;
        at.z = (int) z;
        at.placed = true;
        return true;
    }

    public int command(int line, int i) {
        Line at = lineAt(line);
        if (at == null || !at.allLegsTold() || i < 0) {
            return BAD;
        }
        track.follow(at);
        int step = i / 2;
        if (step >= track.steps) {
            return BAD;
        }
        return i % 2 == 0 ? track.stepX[step] : track.stepY[step];
    }

    public int clash(int lineA, int lineB) {
        Line a = lineAt(lineA);
        Line b = lineAt(lineB);
        if (a == null || b == null || lineA == lineB) {
            return BAD;
        }
        if (!a.placed || !b.placed || !a.allLegsTold() || !b.allLegsTold()) {
            return BAD;
        }
        track.follow(a);
        otherTrack.follow(b);
        long both = a.diameter + b.diameter;
        long height = a.z - b.z;
        // The half of both diameters may be no whole number: four times the squares are compared.
        long room = both * both - 4 * height * height;
        return 4 * track.leastSquareTo(otherTrack) < room ? 1 : 0;
    }

    public int lap(int line, long length) {
        Line at = lineAt(line);
        if (at == null || length < 0 || length > GREATEST_LAP) {
            return BAD;
        }
        Shelf shelf = shelves[at.diameter - LEAST_DIAMETER];
        if (shelf == null) {
            return BAD;
        }
        int greatest = shelf.greatest();
        int gain = greatest - (int) length;
        if (gain < 1) {
            return BAD;
        }
        int missing = cutLength(at) - greatest;
        return missing <= 0 ? 0 : (missing + gain - 1) / gain;
    }

    public long weight(int line, int part) {
        Line at = lineAt(line);
        if (at == null) {
            return BAD;
        }
        long upper = (long) at.diameter * at.diameter * cutLength(at) * at.bars;
        int common = greatestCommonWithDivisor(upper);
        switch (part) {
            case 0:
                return upper / common;
            case 1:
                return WEIGHT_DIVISOR / common;
            default:
                return BAD;
        }
    }

    public int tag(int line, int i) {
        Line at = lineAt(line);
        return at == null ? BAD : at.signOfTag(i);
    }

    public int differs(int line, int other, int k) {
        Line a = lineAt(line);
        Line b = lineAt(other);
        if (a == null || b == null || k < 0) {
            return BAD;
        }
        int found = 0;
        for (int thing = 0; thing < FIRST_LEG_THING + MOST_LEGS; thing++) {
            if (a.thing(thing) != b.thing(thing)) {
                if (found == k) {
                    return thing;
                }
                found++;
            }
        }
        return BAD;
    }

    public int order(int k) {
        for (int line = 0; line < lineCount; line++) {
            if (linesBentBefore(line) == k) {
                return line;
            }
        }
        return BAD;
    }

    private static boolean isDiameter(int diameter) {
        return diameter >= LEAST_DIAMETER && diameter <= GREATEST_DIAMETER;
    }

    private static boolean isPlace(long coordinate) {
        return coordinate >= -GREATEST_PLACE && coordinate <= GREATEST_PLACE;
    }

    private Line lineAt(int line) {
        return line >= 0 && line < lineCount ? lines[line] : null;
    }

    private int cutLength(Line line) {
        int shortened = rules[line.diameter - LEAST_DIAMETER] * line.shape.quarters;
        return Math.max(0, line.sumOfLegs() - shortened);
    }

    private boolean cutDiameter(int diameter, int nodes) {
        int from = plan.pieces;
        if (!gatherPieces(diameter, from)) {
            return false;
        }
        int count = plan.pieces - from;
        if (count == 0) {
            return true;
        }
        Shelf shelf = shelves[diameter - LEAST_DIAMETER];
        if (shelf == null) {
            return false;
        }
        plan.diameters++;
        if (count > nodes) {
            return firstFit.cut(plan, from, diameter, shelf);
        }
        plan.leastWasteDiameters++;
        return leastWaste.cut(plan, from, diameter, shelf);
    }

    private boolean gatherPieces(int diameter, int from) {
        for (int line = 0; line < lineCount; line++) {
            Line at = lines[line];
            if (at.diameter == diameter) {
                int size = cutLength(at);
                if (size == 0) {
                    return false;
                }
                for (int i = 0; i < at.bars; i++) {
                    plan.addPiece(from, line, size);
                }
            }
        }
        return true;
    }

    private static int greatestCommonWithDivisor(long number) {
        for (int divisor = WEIGHT_DIVISOR; divisor > 1; divisor--) {
            if (WEIGHT_DIVISOR % divisor == 0 && number % divisor == 0) {
                return divisor;
            }
        }
        return 1;
    }

    private int linesBentBefore(int line) {
        int before = 0;
        for (int other = 0; other < lineCount; other++) {
            if (isBentBefore(other, line)) {
                before++;
            }
        }
        return before;
    }

    private boolean isBentBefore(int line, int other) {
        Line a = lines[line];
        Line b = lines[other];
        if (a.diameter != b.diameter) {
            return a.diameter < b.diameter;
        }
        if (a.shapeNumber != b.shapeNumber) {
            return a.shapeNumber < b.shapeNumber;
        }
        return line < other;
    }

    /** The signs that are collected for the next shape. */
    private static final class Signs {
        final char[] row = new char[MOST_SIGNS];
        int count;

        boolean collect(int sign) {
            if (sign < LEAST_SIGN || sign > GREATEST_SIGN || count >= MOST_SIGNS) {
                return false;
            }
            row[count] = (char) sign;
            count++;
            return true;
        }

        /** Where the signs stop being a shape (behind the last if they end too early), or -1. */
        int firstWrong() {
            for (int i = 0; i < count; i++) {
                boolean right = i % 2 == 0 ? isLeg(row[i], i / 2) : quartersOf(row[i]) > 0;
                if (!right) {
                    return i;
                }
            }
            return count % 2 == 0 ? count : -1;
        }

        Shape toShape() {
            char[] text = new char[count];
            int quarters = 0;
            for (int i = 0; i < count; i++) {
                text[i] = row[i];
                quarters += i % 2 == 0 ? 0 : quartersOf(row[i]);
            }
            return new Shape(text, quarters);
        }

        private static boolean isLeg(int sign, int k) {
            return k < MOST_LEGS && sign == 'A' + k;
        }

        private static int quartersOf(int sign) {
            switch (sign) {
                case 'L':
                case 'R':
                    return 1;
                case 'U':
                    return 2;
                default:
                    return 0;
            }
        }
    }

    /** A shape that is known to be right: legs at the even signs, bends between them. */
    private static final class Shape {
        final char[] text;
        final int legs;
        final int quarters;

        Shape(char[] text, int quarters) {
            this.text = text;
            this.legs = (text.length + 1) / 2;
            this.quarters = quarters;
        }

        /** The bend before leg k; the first leg has none, and a blank stands for it. */
        int bendBefore(int k) {
            int i = 2 * k - 1;
            return i > 0 && i < text.length ? text[i] : ' ';
        }
    }

    /** A line of the list; legs that are not told yet, or that its shape lacks, are 0. */
    private static final class Line {
        final int shapeNumber;
        final Shape shape;
        final int diameter;
        final int bars;
        final int[] legs = new int[MOST_LEGS];
        boolean placed;
        int x;
        int y;
        int z;

        Line(int shapeNumber, Shape shape, int diameter, int bars) {
            this.shapeNumber = shapeNumber;
            this.shape = shape;
            this.diameter = diameter;
            this.bars = bars;
        }

        int sumOfLegs() {
            int sum = 0;
            for (int k = 0; k < legs.length; k++) {
                sum += legs[k];
            }
            return sum;
        }

        boolean allLegsTold() {
            for (int k = 0; k < shape.legs; k++) {
                if (legs[k] == 0) {
                    return false;
                }
            }
            return true;
        }

        int thing(int which) {
            switch (which) {
                case 0:
                    return shapeNumber;
                case 1:
                    return diameter;
                case 2:
                    return bars;
                default:
                    int k = which - FIRST_LEG_THING;
                    return k >= 0 && k < legs.length ? legs[k] : 0;
            }
        }

        int signOfTag(int i) {
            int tens = diameter / 10;
            int lastDigit = tens > 0 ? 3 : 2;
            if (i <= 0) {
                return i < 0 ? BAD : '0' + bars;
            }
            if (i == 1) {
                return 'x';
            }
            if (i < lastDigit) {
                return '0' + tens;
            }
            if (i == lastDigit) {
                return '0' + diameter % 10;
            }
            if (i == lastDigit + 1) {
                return ':';
            }
            int sign = i - lastDigit - 2;
            return sign < shape.text.length ? shape.text[sign] : BAD;
        }
    }

    /** The way of a line's bar, step by step: its legs, and the steps aside of its U bends. */
    private static final class Track {
        private static final int MOST_STEPS = 2 * MOST_LEGS - 1;
        private static final int U_STEP_IN_DIAMETERS = 3;
        private static final long TOO_FAR = 1L << 60;

        final int[] fromX = new int[MOST_STEPS];
        final int[] fromY = new int[MOST_STEPS];
        final int[] stepX = new int[MOST_STEPS];
        final int[] stepY = new int[MOST_STEPS];
        final boolean[] isLeg = new boolean[MOST_STEPS];
        int steps;
        private int x;
        private int y;

        void follow(Line line) {
            steps = 0;
            x = line.x;
            y = line.y;
            int wayX = 1;
            int wayY = 0;
            for (int k = 0; k < line.shape.legs; k++) {
                int oldX = wayX;
                int oldY = wayY;
                switch (line.shape.bendBefore(k)) {
                    case 'L':
                        wayX = -oldY;
                        wayY = oldX;
                        break;
                    case 'R':
                        wayX = oldY;
                        wayY = -oldX;
                        break;
                    case 'U':
                        int aside = U_STEP_IN_DIAMETERS * line.diameter;
                        go(-oldY * aside, oldX * aside, false);
                        wayX = -oldX;
                        wayY = -oldY;
                        break;
                    default:
                        break;
                }
                go(wayX * line.legs[k], wayY * line.legs[k], true);
            }
        }

        private void go(int alongX, int alongY, boolean leg) {
            if (steps >= MOST_STEPS) {
                return;
            }
            fromX[steps] = x;
            fromY[steps] = y;
            stepX[steps] = alongX;
            stepY[steps] = alongY;
            isLeg[steps] = leg;
            x += alongX;
            y += alongY;
            steps++;
        }

        /** The least square, seen from above, of the distance of a leg to one of another track. */
        long leastSquareTo(Track other) {
            long least = TOO_FAR;
            for (int i = 0; i < steps; i++) {
                for (int j = 0; j < other.steps; j++) {
                    if (isLeg[i] && other.isLeg[j]) {
                        long gapX = gap(fromX[i], stepX[i], other.fromX[j], other.stepX[j]);
                        long gapY = gap(fromY[i], stepY[i], other.fromY[j], other.stepY[j]);
                        least = Math.min(least, gapX * gapX + gapY * gapY);
                    }
                }
            }
            return least;
        }

        /** Legs run along one axis, so that each axis has its gap for itself. */
        private static int gap(int a, int stepA, int b, int stepB) {
            int aboveA = Math.min(b, b + stepB) - Math.max(a, a + stepA);
            int aboveB = Math.min(a, a + stepA) - Math.max(b, b + stepB);
            return Math.max(0, Math.max(aboveA, aboveB));
        }
    }

    /** The kinds of stock of one diameter, in the order in which they were told. */
    private static final class Shelf {
        final int[] sizes = new int[MOST_KINDS];
        final int[] bars = new int[MOST_KINDS];
        int kinds;

        boolean add(int size, int count) {
            if (kinds >= MOST_KINDS) {
                return false;
            }
            sizes[kinds] = size;
            bars[kinds] = count;
            kinds++;
            return true;
        }

        int greatest() {
            int greatest = 0;
            for (int kind = 0; kind < kinds; kind++) {
                greatest = Math.max(greatest, sizes[kind]);
            }
            return greatest;
        }
    }

    /** What was cut: all pieces, diameter by diameter in their order, and the bars they come from. */
    private static final class Plan {
        final int[] pieceLine = new int[MOST_PIECES];
        final int[] pieceSize = new int[MOST_PIECES];
        final int[] pieceBar = new int[MOST_PIECES];
        final int[] barDiameter = new int[MOST_PIECES];
        final int[] barSize = new int[MOST_PIECES];
        final int[] barRoom = new int[MOST_PIECES];
        final int[] barPieces = new int[MOST_PIECES];
        int pieces;
        int bars;
        int diameters;
        int leastWasteDiameters;
        boolean done;

        void clear() {
            pieces = 0;
            bars = 0;
            diameters = 0;
            leastWasteDiameters = 0;
            done = false;
        }

        /** Lines come in their order, so a piece goes behind those of its own size. */
        void addPiece(int from, int line, int size) {
            if (pieces >= MOST_PIECES) {
                return;
            }
            int at = pieces;
            while (at > from && pieceSize[at - 1] < size) {
                pieceLine[at] = pieceLine[at - 1];
                pieceSize[at] = pieceSize[at - 1];
                at--;
            }
            pieceLine[at] = line;
            pieceSize[at] = size;
            pieces++;
        }

        /** Every bar is opened for a piece, so there is always room for one more. */
        int openBar(int diameter, int size) {
            if (bars >= MOST_PIECES) {
                return NONE;
            }
            barDiameter[bars] = diameter;
            barSize[bars] = size;
            barRoom[bars] = size;
            barPieces[bars] = 0;
            bars++;
            return bars - 1;
        }

        void putPiece(int piece, int bar) {
            pieceBar[piece] = bar;
            barRoom[bar] -= pieceSize[piece];
            barPieces[bar]++;
        }

        int lineOfPiece(int bar, int k) {
            int found = 0;
            for (int piece = 0; piece < pieces; piece++) {
                if (pieceBar[piece] == bar) {
                    if (found == k) {
                        return pieceLine[piece];
                    }
                    found++;
                }
            }
            return BAD;
        }

        int sumOfBars() {
            int sum = 0;
            for (int bar = 0; bar < bars; bar++) {
                sum += barSize[bar];
            }
            return sum;
        }

        int sumOfPieces() {
            int sum = 0;
            for (int piece = 0; piece < pieces; piece++) {
                sum += pieceSize[piece];
            }
            return sum;
        }
    }

    /** The second rule of cutting, for more pieces than can be looked through. */
    private static final class FirstFit {
        private final int[] left = new int[MOST_KINDS];

        /** Cuts all pieces from the given one on; false if one of them finds no bar. */
        boolean cut(Plan plan, int from, int diameter, Shelf shelf) {
            int firstBar = plan.bars;
            System.arraycopy(shelf.bars, 0, left, 0, MOST_KINDS);
            for (int piece = from; piece < plan.pieces; piece++) {
                int size = plan.pieceSize[piece];
                int bar = firstWithRoom(plan, firstBar, size);
                if (bar == NONE) {
                    int kind = leastKindFor(shelf, size);
                    if (kind == NONE) {
                        return false;
                    }
                    left[kind]--;
                    bar = plan.openBar(diameter, shelf.sizes[kind]);
                }
                if (bar == NONE) {
                    return false;
                }
                plan.putPiece(piece, bar);
            }
            return true;
        }

        private static int firstWithRoom(Plan plan, int firstBar, int size) {
            for (int bar = firstBar; bar < plan.bars; bar++) {
                if (plan.barRoom[bar] >= size) {
                    return bar;
                }
            }
            return NONE;
        }

        private int leastKindFor(Shelf shelf, int size) {
            int least = NONE;
            for (int kind = 0; kind < shelf.kinds; kind++) {
                boolean fits = left[kind] > 0 && shelf.sizes[kind] >= size;
                if (fits && (least == NONE || shelf.sizes[kind] < shelf.sizes[least])) {
                    least = kind;
                }
            }
            return least;
        }
    }

    /**
     * The first rule of cutting: all ways are looked through in the order in which the document
     * prefers them, so that only a way of less cost takes the place of the one found before.
     *
     * <p>A row of pieces is a set of bits, the first piece being the highest: then of two rows the
     * greater number is the one that comes first, and (row - 1) & set is the next lesser row of a
     * set. The cost of a way is the length of its bars and, in the low bits, their number.
     */
    private static final class LeastWaste {
        private static final int SETS = 1 << MOST_NODES;
        private static final int COST_OF_LENGTH = 16;
        private static final int TOO_MUCH = 1 << 28;

        private final int[] sums = new int[SETS];
        private final int[] floors = new int[SETS];
        private final int[] sizes = new int[MOST_KINDS];
        private final int[] left = new int[MOST_KINDS];
        private final int[] kindOfBar = new int[MOST_NODES];
        private final int[] rowOfBar = new int[MOST_NODES];
        private final int[] bestKindOfBar = new int[MOST_NODES];
        private final int[] bestRowOfBar = new int[MOST_NODES];
        private int kinds;
        private int best;
        private int bestBars;

        /** Cuts all pieces from the given one on; false if there is no way. */
        boolean cut(Plan plan, int from, int diameter, Shelf shelf) {
            int count = plan.pieces - from;
            if (count < 1 || count > MOST_NODES) {
                return false;
            }
            kinds = shelf.kinds;
            System.arraycopy(shelf.sizes, 0, sizes, 0, MOST_KINDS);
            System.arraycopy(shelf.bars, 0, left, 0, MOST_KINDS);
            sumSets(plan, from, count);
            findFloors(count);
            best = TOO_MUCH;
            bestBars = 0;
            search(0, (1 << count) - 1, 0);
            if (best == TOO_MUCH) {
                return false;
            }
            return writeBest(plan, from, diameter);
        }

        private void sumSets(Plan plan, int from, int count) {
            sums[0] = 0;
            for (int k = 0; k < count; k++) {
                int bit = 1 << k;
                int size = plan.pieceSize[from + count - 1 - k];
                for (int set = bit; set < 2 * bit; set++) {
                    sums[set] = sums[set - bit] + size;
                }
            }
        }

        /** The least cost of each set if no kind ran out: no way can be below it. */
        private void findFloors(int count) {
            floors[0] = 0;
            for (int set = 1; set < 1 << count; set++) {
                int top = highestBit(set);
                int least = TOO_MUCH;
                for (int row = set; row >= top; row = (row - 1) & set) {
                    least = Math.min(least, costOfCheapestBar(sums[row]) + floors[set - row]);
                }
                floors[set] = least;
            }
        }

        private int costOfCheapestBar(int size) {
            int least = TOO_MUCH;
            for (int kind = 0; kind < kinds; kind++) {
                if (left[kind] > 0 && sizes[kind] >= size) {
                    least = Math.min(least, costOfBar(kind));
                }
            }
            return least;
        }

        private int costOfBar(int kind) {
            return sizes[kind] * COST_OF_LENGTH + 1;
        }

        /** The depth is the number of bars opened, at most one for each piece. */
        private void search(int depth, int rest, int cost) {
            if (rest == 0) {
                keep(depth, cost);
                return;
            }
            if (depth >= MOST_NODES) {
                return;
            }
            for (int kind = 0; kind < kinds; kind++) {
                if (left[kind] > 0) {
                    left[kind]--;
                    kindOfBar[depth] = kind;
                    searchRows(depth, rest, cost + costOfBar(kind));
                    left[kind]++;
                }
            }
        }

        private void searchRows(int depth, int rest, int cost) {
            int top = highestBit(rest);
            int size = sizes[kindOfBar[depth]];
            for (int row = rest; row >= top; row = (row - 1) & rest) {
                if (sums[row] <= size && cost + floors[rest - row] < best) {
                    rowOfBar[depth] = row;
                    search(depth + 1, rest - row, cost);
                }
            }
        }

        private void keep(int depth, int cost) {
            best = cost;
            bestBars = depth;
            for (int bar = 0; bar < depth; bar++) {
                bestKindOfBar[bar] = kindOfBar[bar];
                bestRowOfBar[bar] = rowOfBar[bar];
            }
        }

        private boolean writeBest(Plan plan, int from, int diameter) {
            for (int i = 0; i < bestBars; i++) {
                int bar = plan.openBar(diameter, sizes[bestKindOfBar[i]]);
                if (bar == NONE) {
                    return false;
                }
                for (int piece = from; piece < plan.pieces; piece++) {
                    if (((bestRowOfBar[i] >> (plan.pieces - 1 - piece)) & 1) == 1) {
                        plan.putPiece(piece, bar);
                    }
                }
            }
            return true;
        }

        /** Of a set that is not empty; at least 1, so that rows always come to their end. */
        private static int highestBit(int set) {
            for (int bit = SETS / 2; bit > 1; bit /= 2) {
                if ((set & bit) != 0) {
                    return bit;
                }
            }
            return 1;
        }
    }
}
