import java.util.ArrayList;
import java.util.List;
import java.util.Random;

/**
 * Calls drawn by lot, as texts. Each seed has its own few diameters and its own size of lengths, so
 * that lines meet, lengths are equal and stock runs out; now and then a number is any number.
 */
final class Drawn {
    private static final long[] ODD = {Long.MIN_VALUE, Integer.MIN_VALUE, -100001, -100000, -2, -1, 0, 1, 2, 3, 4, 5,
        6, 8, 9, 10, 11, 12, 13, 20, 21, 31, 32, 40, 41, 126, 127, 500, 501, 5000, 5001, 20000, 20001, 30000, 30001,
        100000, 100001, Integer.MAX_VALUE, 1L << 32, (1L << 32) + 4, Long.MAX_VALUE};
    private static final int[] SIZES = {2, 5, 20, 60, 700, 9000};

    private final Random random;
    private final int[] diameters;
    private final int size;
    private final List<String> calls = new ArrayList<>();
    private final List<Integer> legsOfShapes = new ArrayList<>();
    private final List<Integer> legsOfLines = new ArrayList<>();

    Drawn(long seed) {
        random = new Random(seed);
        diameters = new int[1 + random.nextInt(3)];
        for (int i = 0; i < diameters.length; i++) {
            diameters[i] = new int[] {4, 5 + random.nextInt(35), 40}[random.nextInt(3)];
        }
        size = SIZES[random.nextInt(SIZES.length)];
    }

    /** First a list and stock for it are told; then it is asked, and changed now and then. */
    List<String> run(int count) {
        int shapes = 1 + random.nextInt(5);
        int lines = 1 + random.nextInt(7);
        for (int i = 0; i < shapes; i++) {
            shape();
        }
        for (int i = 0; i < diameters.length; i++) {
            call("stock", number(diameters[i], diameters[i], 40), stockLength(), number(2, 12, 20));
        }
        for (int i = 0; i < lines; i++) {
            line();
        }
        while (calls.size() < count) {
            if (random.nextInt(12) == 0) {
                change();
            } else {
                ask();
            }
        }
        return calls.subList(0, count);
    }

    private void change() {
        switch (random.nextInt(9)) {
            case 0 -> shape();
            case 1, 2 -> line();
            case 3, 4 -> call("leg", someLine(), number(0, 2, 5), longNumber(1, size, 20000));
            case 5 -> call("rule", diameter(), longNumber(0, size / 3, 500));
            case 6 -> call("stock", diameter(), stockLength(), number(0, 6, 20));
            default -> place(someLine());
        }
    }

    private void ask() {
        switch (random.nextInt(11)) {
            case 0, 1 -> cut();
            case 2 -> call("length", someLine(), number(0, 4, 5));
            case 3 -> call("command", someLine(), number(0, 7, 22));
            case 4, 5 -> call("clash", someLine(), someLine());
            case 6 -> call("lap", someLine(), longNumber(0, size, 5000));
            case 7 -> call("weight", someLine(), number(0, 1, 2));
            case 8 -> call("tag", someLine(), number(0, 8, 18));
            case 9 -> call("differs", someLine(), someLine(), number(0, 4, 9));
            default -> call("order", number(0, legsOfLines.size(), 12));
        }
    }

    private void cut() {
        if (random.nextInt(3) != 0) {
            call("run", longNumber(0, 8, 8));
        }
        for (int i = random.nextInt(8); i > 0; i--) {
            switch (random.nextInt(6)) {
                case 0 -> call("loss", number(0, 2, 3));
                case 1 -> call("bound", number(0, 1, 2));
                case 2 -> call("proved");
                default -> call("pattern", number(0, 4, 60), number(0, 4, 63));
            }
        }
    }

    private void shape() {
        StringBuilder text = new StringBuilder("A");
        int legs = 1 + random.nextInt(random.nextInt(10) == 0 ? 8 : 4);
        for (int k = 1; k < legs; k++) {
            text.append("LRU".charAt(random.nextInt(3))).append((char) ('A' + k));
        }
        boolean spoilt = random.nextInt(5) == 0;
        if (spoilt) {
            spoil(text);
        } else if (legs <= 6 && legsOfShapes.size() < 10) {
            legsOfShapes.add(legs);
        }
        for (int i = 0; i < text.length(); i++) {
            call("unit", Integer.toString(text.charAt(i)));
        }
        if (!spoilt || random.nextInt(4) != 0) {
            call("shape");
        }
    }

    private void spoil(StringBuilder text) {
        int at = random.nextInt(text.length());
        switch (random.nextInt(4)) {
            case 0 -> text.setCharAt(at, (char) random.nextInt(130));
            case 1 -> text.deleteCharAt(at);
            case 2 -> text.append("LRUG".charAt(random.nextInt(4)));
            default -> text.insert(at, text.substring(at));
        }
    }

    private void line() {
        int shape = random.nextInt(Math.max(1, legsOfShapes.size()));
        call("bar", number(shape, shape, 10), diameter(), number(1, random.nextBoolean() ? 2 : 5, 5));
        if (legsOfLines.size() == 12 || legsOfShapes.isEmpty()) {
            return;
        }
        String line = Integer.toString(legsOfLines.size());
        legsOfLines.add(legsOfShapes.get(shape));
        // A leg that is left out is told later, or never.
        int told = random.nextInt(25) == 0 ? random.nextInt(6) : legsOfShapes.get(shape);
        for (int k = 0; k < told; k++) {
            call("leg", line, Integer.toString(k), longNumber(1 + random.nextInt(size), size, 20000));
        }
        if (random.nextInt(4) != 0) {
            place(line);
        }
    }

    private void place(String line) {
        call("place", line, coordinate(), coordinate(), longNumber(-10, 10, 100000));
    }

    private void call(String name, String... numbers) {
        calls.add(name + "(" + String.join(", ", numbers) + ")");
    }

    private String someLine() {
        return number(0, Math.max(0, legsOfLines.size() - 1), 12);
    }

    private String diameter() {
        int known = diameters[random.nextInt(diameters.length)];
        return number(known, known, 40);
    }

    private String stockLength() {
        return longNumber(2L * size, 6L * size, 30000);
    }

    private String coordinate() {
        return longNumber(-size - 20, size + 20, 100000);
    }

    private String number(long least, long usual, long greatest) {
        return Integer.toString((int) draw(least, usual, greatest));
    }

    /** For what the face takes as a long; number() is for its ints. */
    private String longNumber(long least, long usual, long greatest) {
        return Long.toString(draw(least, usual, greatest));
    }

    /** Mostly from the least to the usual, seldom up to the greatest or any at all. */
    private long draw(long least, long usual, long greatest) {
        int lot = random.nextInt(120);
        if (lot == 0) {
            return ODD[random.nextInt(ODD.length)];
        }
        long most = Math.max(least, Math.min(greatest, lot < 4 ? greatest : usual));
        return least + (long) (random.nextDouble() * (most - least + 1));
    }
}
