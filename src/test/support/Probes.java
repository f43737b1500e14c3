import java.util.ArrayList;
import java.util.List;

/** Calls whose answers together tell the state of an object. */
final class Probes {
    /** Calls that change nothing. */
    static final List<String> QUESTIONS = questions();

    /** Calls that change the object, and so tell what the others do not; each row wants a new one. */
    static final String[][] CHANGES = {
        {"shape()", "unit(65)", "shape()", "bar(0, 10, 1)", "bar(0, 10, 1)"},
        {"run(8)", "loss(0)", "loss(1)", "bound(1)", "pattern(0, 1)", "pattern(1, 1)", "pattern(2, 1)"},
        {"run(0)", "loss(0)", "loss(1)", "bound(1)", "pattern(0, 1)", "pattern(1, 1)", "pattern(2, 1)"},
        kindsThatHaveRoom(),
    };

    private Probes() {
    }

    private static List<String> questions() {
        List<String> all = new ArrayList<>(List.of("loss(0)", "loss(1)", "loss(2)", "bound(0)", "bound(1)", "proved()"));
        for (int line = 0; line <= 12; line++) {
            all.add("order(" + line + ")");
            add(all, "length(" + line + ", #)", 5);
            add(all, "weight(" + line + ", #)", 2);
            add(all, "lap(" + line + ", #)", 2);
            add(all, "tag(" + line + ", #)", 9);
            add(all, "command(" + line + ", #)", 11);
            add(all, "pattern(" + line + ", #)", 7);
            add(all, "differs(" + line + ", 0, #)", 9);
            add(all, "clash(" + line + ", #)", line);
        }
        return all;
    }

    private static void add(List<String> all, String call, int count) {
        for (int i = 0; i < count; i++) {
            all.add(call.replace("#", Integer.toString(i)));
        }
    }

    private static String[] kindsThatHaveRoom() {
        List<String> all = new ArrayList<>();
        for (int diameter = 4; diameter <= 40; diameter++) {
            for (int kind = 0; kind < 3; kind++) {
                all.add("stock(" + diameter + ", 1, 0)");
            }
        }
        return all.toArray(new String[0]);
    }
}
