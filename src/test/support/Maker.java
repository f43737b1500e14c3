/** Short ways to bring an object into a state. */
final class Maker {
    private Maker() {
    }

    static int shape(BarCutting x, String text) {
        for (int i = 0; i < text.length(); i++) {
            x.unit(text.charAt(i));
        }
        return x.shape();
    }

    static int line(BarCutting x, int shape, int diameter, int n, long... legs) {
        int line = x.bar(shape, diameter, n);
        for (int k = 0; k < legs.length; k++) {
            x.leg(line, k, legs[k]);
        }
        return line;
    }

    static String tag(BarCutting x, int line) {
        StringBuilder text = new StringBuilder();
        for (int i = 0; x.tag(line, i) != BarCutting.BAD; i++) {
            text.append((char) x.tag(line, i));
        }
        return text.toString();
    }

    /** A bar that was used, as "diameter/length: lines". */
    static String bar(BarCutting x, int k) {
        if (x.pattern(k, 0) == BarCutting.BAD) {
            return "none";
        }
        StringBuilder text = new StringBuilder();
        text.append(x.pattern(k, 0)).append('/').append(x.pattern(k, 1)).append(':');
        for (int i = 0; i < x.pattern(k, 2); i++) {
            text.append(' ').append(x.pattern(k, 3 + i));
        }
        return text.toString();
    }

    static String bars(BarCutting x) {
        StringBuilder text = new StringBuilder();
        for (int k = 0; x.pattern(k, 0) != BarCutting.BAD; k++) {
            text.append(k == 0 ? "" : "; ").append(bar(x, k));
        }
        return text.toString();
    }
}
