import java.math.BigInteger;
import java.util.ArrayList;
import java.util.Comparator;
import java.util.List;
import java.util.Map;
import java.util.TreeMap;

/**
 * The document told once more, in texts, lists and counting, so that the class can be held against
 * it call by call. It shares nothing with the class, and is slow.
 */
final class Model {
    private static final String[] SIGNS_IN_ORDER = {"A", "LRU", "B", "LRU", "C", "LRU", "D", "LRU", "E", "LRU", "F",
        "LRU", ""};

    private static final class Line {
        int shape;
        String text;
        int diameter;
        int n;
        long[] legs;
        long[] place;
    }

    private static final class Used {
        int diameter;
        long length;
        final List<Integer> lines = new ArrayList<>();
    }

    private String collected = "";
    private final List<String> shapes = new ArrayList<>();
    private final Map<Integer, Long> rules = new TreeMap<>();
    private final List<Line> lines = new ArrayList<>();
    private final Map<Integer, List<long[]>> kinds = new TreeMap<>();
    private List<Used> cut;
    private long piecesCut;
    private int byFirstRule;
    private boolean allByFirstRule;

    boolean unit(int u) {
        if (!within(u, 32, 126) || collected.length() == 40) {
            return false;
        }
        collected += (char) u;
        return true;
    }

    int shape() {
        String text = collected;
        collected = "";
        for (int i = 0; i < text.length(); i++) {
            if (SIGNS_IN_ORDER[i].indexOf(text.charAt(i)) < 0) {
                return -1 - i;
            }
        }
        if (!text.matches("([A-F][LRU])*[A-F]") || shapes.size() == 10) {
            return -1 - text.length();
        }
        shapes.add(text);
        return shapes.size() - 1;
    }

    boolean rule(int diameter, long bend) {
        if (!within(diameter, 4, 40) || !within(bend, 0, 500)) {
            return false;
        }
        rules.put(diameter, bend);
        cut = null;
        return true;
    }

    int bar(int shape, int diameter, int n) {
        if (!within(shape, 0, shapes.size() - 1) || !within(diameter, 4, 40) || !within(n, 1, 5) || lines.size() == 12) {
            return -1;
        }
        Line line = new Line();
        line.shape = shape;
        line.text = shapes.get(shape);
        line.diameter = diameter;
        line.n = n;
        line.legs = new long[legsOf(line.text)];
        lines.add(line);
        cut = null;
        return lines.size() - 1;
    }

    boolean leg(int line, int k, long length) {
        if (!isLine(line) || !within(k, 0, lines.get(line).legs.length - 1) || !within(length, 1, 20000)) {
            return false;
        }
        lines.get(line).legs[k] = length;
        cut = null;
        return true;
    }

    long length(int line, int part) {
        if (!isLine(line) || !within(part, 0, 4)) {
            return -1;
        }
        Line of = lines.get(line);
        return new long[] {lengthOf(of), of.n, sum(of.legs), of.diameter, of.shape}[part];
    }

    boolean stock(int diameter, long length, int n) {
        if (!within(diameter, 4, 40) || !within(length, 1, 30000) || !within(n, 0, 20)) {
            return false;
        }
        if (kindsOf(diameter).size() == 3) {
            return false;
        }
        kinds.computeIfAbsent(diameter, none -> new ArrayList<>()).add(new long[] {length, n});
        cut = null;
        return true;
    }

    int run(long nodes) {
        if (!within(nodes, 0, 8)) {
            return -1;
        }
        cut = null;
        piecesCut = 0;
        byFirstRule = 0;
        allByFirstRule = true;
        List<Used> all = new ArrayList<>();
        for (int diameter = 4; diameter <= 40; diameter++) {
            List<Integer> pieces = piecesOf(diameter);
            if (!pieces.isEmpty() && !cutPieces(diameter, pieces, nodes, all)) {
                return -1;
            }
        }
        cut = all;
        return all.size();
    }

    long loss(int part) {
        if (cut == null || !within(part, 0, 2)) {
            return -1;
        }
        long used = 0;
        for (Used bar : cut) {
            used += bar.length;
        }
        return new long[] {used - piecesCut, used, piecesCut}[part];
    }

    long bound(int part) {
        return cut == null || !within(part, 0, 1) ? -1 : part == 0 ? piecesCut : byFirstRule;
    }

    boolean proved() {
        return cut != null && allByFirstRule;
    }

    int pattern(int k, int i) {
        if (cut == null || !within(k, 0, cut.size() - 1)) {
            return -1;
        }
        Used bar = cut.get(k);
        List<Integer> told = new ArrayList<>(List.of(bar.diameter, (int) bar.length, bar.lines.size()));
        told.addAll(bar.lines);
        return within(i, 0, told.size() - 1) ? told.get(i) : -1;
    }

    boolean place(int line, long x, long y, long z) {
        if (!isLine(line) || !within(x, -100000, 100000) || !within(y, -100000, 100000) || !within(z, -100000, 100000)) {
            return false;
        }
        lines.get(line).place = new long[] {x, y, z};
        return true;
    }

    int command(int line, int i) {
        if (!isLine(line) || !isTold(lines.get(line))) {
            return -1;
        }
        List<Long> numbers = new ArrayList<>();
        for (long[] step : steps(lines.get(line))) {
            numbers.add(step[0]);
            numbers.add(step[1]);
        }
        return within(i, 0, numbers.size() - 1) ? numbers.get(i).intValue() : -1;
    }

    int clash(int lineA, int lineB) {
        if (!isLine(lineA) || !isLine(lineB) || lineA == lineB) {
            return -1;
        }
        Line a = lines.get(lineA);
        Line b = lines.get(lineB);
        if (a.place == null || b.place == null || !isTold(a) || !isTold(b)) {
            return -1;
        }
        for (long[] one : legsInPlace(a)) {
            for (long[] other : legsInPlace(b)) {
                if (Segments.nearer(one, other, a.place[2] - b.place[2], a.diameter + b.diameter)) {
                    return 1;
                }
            }
        }
        return 0;
    }

    int lap(int line, long length) {
        if (!isLine(line) || !within(length, 0, 5000)) {
            return -1;
        }
        long greatest = 0;
        for (long[] kind : kindsOf(lines.get(line).diameter)) {
            greatest = Math.max(greatest, kind[0]);
        }
        if (length >= greatest) {
            return -1;
        }
        int laps = 0;
        while ((laps + 1) * greatest - laps * length < lengthOf(lines.get(line))) {
            laps++;
        }
        return laps;
    }

    long weight(int line, int part) {
        if (!isLine(line) || !within(part, 0, 1)) {
            return -1;
        }
        Line of = lines.get(line);
        BigInteger upper = BigInteger.valueOf(of.diameter).pow(2).multiply(BigInteger.valueOf(lengthOf(of) * of.n));
        BigInteger lower = BigInteger.valueOf(162);
        BigInteger common = upper.gcd(lower);
        return (part == 0 ? upper : lower).divide(common).longValueExact();
    }

    int tag(int line, int i) {
        if (!isLine(line)) {
            return -1;
        }
        Line of = lines.get(line);
        String tag = of.n + "x" + of.diameter + ":" + of.text;
        return within(i, 0, tag.length() - 1) ? tag.charAt(i) : -1;
    }

    int differs(int line, int other, int k) {
        if (!isLine(line) || !isLine(other)) {
            return -1;
        }
        List<Long> a = things(lines.get(line));
        List<Long> b = things(lines.get(other));
        List<Integer> found = new ArrayList<>();
        for (int thing = 0; thing < Math.max(a.size(), b.size()); thing++) {
            long inA = thing < a.size() ? a.get(thing) : 0;
            long inB = thing < b.size() ? b.get(thing) : 0;
            if (inA != inB) {
                found.add(thing);
            }
        }
        return within(k, 0, found.size() - 1) ? found.get(k) : -1;
    }

    int order(int k) {
        List<Line> bent = new ArrayList<>(lines);
        // The sort is stable: lines that are alike stay in their order.
        bent.sort(Comparator.<Line>comparingInt(line -> line.diameter).thenComparingInt(line -> line.shape));
        return within(k, 0, bent.size() - 1) ? lines.indexOf(bent.get(k)) : -1;
    }

    private boolean cutPieces(int diameter, List<Integer> pieces, long nodes, List<Used> all) {
        long[] lengths = new long[pieces.size()];
        for (int i = 0; i < lengths.length; i++) {
            lengths[i] = lengthOf(lines.get(pieces.get(i)));
            if (lengths[i] == 0) {
                return false;
            }
        }
        List<long[]> stock = kindsOf(diameter);
        long[] sizes = stock.stream().mapToLong(kind -> kind[0]).toArray();
        int[] counts = stock.stream().mapToInt(kind -> (int) kind[1]).toArray();
        boolean first = lengths.length <= nodes;
        Ways ways = new Ways(lengths, sizes, counts);
        List<Ways.Bar> way = first ? ways.first() : ways.second();
        if (way == null) {
            return false;
        }
        for (Ways.Bar bar : way) {
            Used used = new Used();
            used.diameter = diameter;
            used.length = sizes[bar.kind];
            for (int piece : bar.pieces) {
                used.lines.add(pieces.get(piece));
            }
            all.add(used);
        }
        piecesCut += sum(lengths);
        byFirstRule += first ? 1 : 0;
        allByFirstRule &= first;
        return true;
    }

    /** The line of each piece. */
    private List<Integer> piecesOf(int diameter) {
        List<Integer> pieces = new ArrayList<>();
        for (int line = 0; line < lines.size(); line++) {
            for (int i = 0; i < lines.get(line).n && lines.get(line).diameter == diameter; i++) {
                pieces.add(line);
            }
        }
        pieces.sort(Comparator.comparingLong(line -> -lengthOf(lines.get(line))));
        return pieces;
    }

    private List<long[]> kindsOf(int diameter) {
        return kinds.getOrDefault(diameter, List.of());
    }

    private long lengthOf(Line line) {
        long quarters = 0;
        for (char sign : line.text.toCharArray()) {
            quarters += sign == 'U' ? 2 : sign == 'L' || sign == 'R' ? 1 : 0;
        }
        return Math.max(0, sum(line.legs) - quarters * rules.getOrDefault(line.diameter, 0L));
    }

    /** In x, in y, and 1 if it is a leg; ways are told in quarter turns from greater x. */
    private static List<long[]> steps(Line line) {
        List<long[]> steps = new ArrayList<>();
        int quarter = 0;
        int leg = 0;
        for (char sign : line.text.toCharArray()) {
            switch (sign) {
                case 'L' -> quarter += 1;
                case 'R' -> quarter += 3;
                case 'U' -> {
                    steps.add(step(quarter + 1, 3 * line.diameter, 0));
                    quarter += 2;
                }
                default -> steps.add(step(quarter, line.legs[leg++], 1));
            }
        }
        return steps;
    }

    private static long[] step(int quarter, long far, long isLeg) {
        return switch (quarter % 4) {
            case 0 -> new long[] {far, 0, isLeg};
            case 1 -> new long[] {0, far, isLeg};
            case 2 -> new long[] {-far, 0, isLeg};
            default -> new long[] {0, -far, isLeg};
        };
    }

    private static List<long[]> legsInPlace(Line line) {
        List<long[]> legs = new ArrayList<>();
        long x = line.place[0];
        long y = line.place[1];
        for (long[] step : steps(line)) {
            if (step[2] == 1) {
                legs.add(new long[] {x, y, x + step[0], y + step[1]});
            }
            x += step[0];
            y += step[1];
        }
        return legs;
    }

    private static List<Long> things(Line line) {
        List<Long> things = new ArrayList<>(List.of((long) line.shape, (long) line.diameter, (long) line.n));
        for (long leg : line.legs) {
            things.add(leg);
        }
        return things;
    }

    private static boolean isTold(Line line) {
        for (long leg : line.legs) {
            if (leg == 0) {
                return false;
            }
        }
        return true;
    }

    private static int legsOf(String text) {
        return text.replaceAll("[LRU]", "").length();
    }

    private static long sum(long[] numbers) {
        long sum = 0;
        for (long number : numbers) {
            sum += number;
        }
        return sum;
    }

    private boolean isLine(int line) {
        return within(line, 0, lines.size() - 1);
    }

    private static boolean within(long number, long least, long greatest) {
        return number >= least && number <= greatest;
    }
}
