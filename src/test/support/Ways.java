import java.util.ArrayList;
import java.util.List;

/** Cutting as the document tells it, all ways being made and compared word by word. */
final class Ways {
    /** A stock bar that is used: its kind, and its pieces by their number in the order of pieces. */
    static final class Bar {
        final int kind;
        final List<Integer> pieces = new ArrayList<>();

        Bar(int kind) {
            this.kind = kind;
        }
    }

    private final long[] pieces;
    private final long[] sizes;
    private final int[] counts;
    private final List<Bar> open = new ArrayList<>();
    private List<Bar> best;

    /** Pieces are in their order; kinds are in the order in which they were told. */
    Ways(long[] pieces, long[] sizes, int[] counts) {
        this.pieces = pieces;
        this.sizes = sizes;
        this.counts = counts;
    }

    /** The way that the first rule asks for, or null. */
    List<Bar> first() {
        best = null;
        open.clear();
        give(0);
        return best;
    }

    /** The way that the second rule asks for, or null. */
    List<Bar> second() {
        open.clear();
        for (int piece = 0; piece < pieces.length; piece++) {
            Bar to = null;
            for (Bar bar : open) {
                if (to == null && hasRoom(bar, piece)) {
                    to = bar;
                }
            }
            if (to == null) {
                int kind = -1;
                for (int k = 0; k < sizes.length; k++) {
                    if (isLeft(k) && sizes[k] >= pieces[piece] && (kind < 0 || sizes[k] < sizes[kind])) {
                        kind = k;
                    }
                }
                if (kind < 0) {
                    return null;
                }
                to = new Bar(kind);
                open.add(to);
            }
            to.pieces.add(piece);
        }
        return new ArrayList<>(open);
    }

    private void give(int piece) {
        if (piece == pieces.length) {
            if (best == null || comesBefore(open, best)) {
                best = copy(open);
            }
            return;
        }
        // The least preferred choices come first, so that a wrong comparison shows.
        for (int kind = sizes.length - 1; kind >= 0; kind--) {
            if (isLeft(kind) && sizes[kind] >= pieces[piece]) {
                Bar bar = new Bar(kind);
                bar.pieces.add(piece);
                open.add(bar);
                give(piece + 1);
                open.remove(open.size() - 1);
            }
        }
        for (int i = open.size() - 1; i >= 0; i--) {
            Bar bar = open.get(i);
            if (hasRoom(bar, piece)) {
                bar.pieces.add(piece);
                give(piece + 1);
                bar.pieces.remove(bar.pieces.size() - 1);
            }
        }
    }

    private boolean isLeft(int kind) {
        int used = 0;
        for (Bar bar : open) {
            used += bar.kind == kind ? 1 : 0;
        }
        return used < counts[kind];
    }

    private boolean hasRoom(Bar bar, int piece) {
        long sum = pieces[piece];
        for (int other : bar.pieces) {
            sum += pieces[other];
        }
        return sum <= sizes[bar.kind];
    }

    private boolean comesBefore(List<Bar> a, List<Bar> b) {
        if (stock(a) != stock(b)) {
            return stock(a) < stock(b);
        }
        if (a.size() != b.size()) {
            return a.size() < b.size();
        }
        for (int i = 0; i < a.size(); i++) {
            if (a.get(i).kind != b.get(i).kind) {
                return a.get(i).kind < b.get(i).kind;
            }
            int order = compareRows(a.get(i).pieces, b.get(i).pieces);
            if (order != 0) {
                return order < 0;
            }
        }
        return false;
    }

    private static int compareRows(List<Integer> a, List<Integer> b) {
        for (int i = 0; i < a.size() && i < b.size(); i++) {
            if (!a.get(i).equals(b.get(i))) {
                return a.get(i) < b.get(i) ? -1 : 1;
            }
        }
        return b.size() - a.size();
    }

    private long stock(List<Bar> bars) {
        long sum = 0;
        for (Bar bar : bars) {
            sum += sizes[bar.kind];
        }
        return sum;
    }

    private static List<Bar> copy(List<Bar> bars) {
        List<Bar> made = new ArrayList<>();
        for (Bar bar : bars) {
            Bar twin = new Bar(bar.kind);
            twin.pieces.addAll(bar.pieces);
            made.add(twin);
        }
        return made;
    }
}
