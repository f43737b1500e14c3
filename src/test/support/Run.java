import java.util.ArrayList;
import java.util.List;

/**
 * A new object and the calls on it, told as texts like "leg(0, 1, 200)"; a boolean counts 1 or 0. It
 * makes no more calls than the document promises for one object, and can be made again call by call.
 */
final class Run {
    static final int MOST_CALLS = 512;
    private static final long WRAP = 1L << 32;

    private final Check check;
    private final String sentence;
    private final List<String> calls = new ArrayList<>();
    private final Caller caller = new Caller(new BarCutting());
    private List<String> told;

    /** The sentence of the document that this run holds stands before each answer that is not due. */
    Run(Check check, String sentence) {
        this.check = check;
        this.sentence = sentence;
    }

    /** Something of everything: shapes, rules, lines, stock, places, what was cut, signs collected. */
    static Run ordinary(Check check, String sentence) {
        Run run = new Run(check, sentence);
        run.shape("ALB").shape("A").shape("AUBRC");
        run.line(0, 10, 2, 300, 200).line(1, 10, 1, 150).line(2, 4, 1, 50, 60, 70).line(0, 40, 3, 1000);
        run.does("rule(10, 20)", "rule(4, 5)", "rule(40, 7)");
        run.does("stock(10, 600, 5)", "stock(10, 500, 2)", "stock(4, 200, 3)", "stock(40, 3000, 1)");
        run.does("place(0, 0, 0, 0)", "place(1, 5, 5, 5)", "place(2, -90, 7, 1)");
        return run.does("run(8)").text("ALX");
    }

    /** As much of everything as there may be: 10 shapes, 12 lines, 3 kinds, 40 signs. */
    static Run full(Check check, String sentence) {
        Run run = new Run(check, sentence);
        run.shape("AUB");
        for (int i = 1; i < 10; i++) {
            run.shape("A");
        }
        for (int i = 0; i < 11; i++) {
            run.line(i % 10, 10, 1, 100 + i);
        }
        run.line(0, 40, 5, 500, 500);
        run.does("rule(10, 3)", "stock(10, 400, 20)", "stock(10, 300, 20)", "stock(10, 200, 20)");
        run.does("stock(40, 5000, 5)", "place(0, 0, 0, 0)", "place(1, 0, 3, 3)", "run(8)");
        for (int i = 0; i < 40; i++) {
            run.does("unit(65)");
        }
        return run;
    }

    /** The same calls on another new object. */
    Run twin() {
        Run twin = new Run(check, sentence);
        for (String call : calls) {
            twin.ask(call);
        }
        return twin;
    }

    int calls() {
        return calls.size();
    }

    long ask(String call) {
        if (calls.size() >= MOST_CALLS) {
            throw new IllegalStateException("nothing is promised behind the 512th call");
        }
        calls.add(call);
        told = null;
        return caller.answer(call);
    }

    Run does(String... more) {
        for (String call : more) {
            ask(call);
        }
        return this;
    }

    Run text(String signs) {
        for (int i = 0; i < signs.length(); i++) {
            ask("unit(" + (int) signs.charAt(i) + ")");
        }
        return this;
    }

    Run shape(String signs) {
        return text(signs).does("shape()");
    }

    Run line(int shape, int diameter, int n, long... legs) {
        long line = ask("bar(" + shape + ", " + diameter + ", " + n + ")");
        for (int k = 0; k < legs.length; k++) {
            ask("leg(" + line + ", " + k + ", " + legs[k] + ")");
        }
        return this;
    }

    Run due(String call, long want) {
        check.due(name(call), ask(call), want);
        return this;
    }

    Run due(String call, boolean want) {
        return due(call, want ? 1 : 0);
    }

    Run dueShape(String signs, long want) {
        check.due(name("shape() of '" + signs + "'"), text(signs).ask("shape()"), want);
        return this;
    }

    /** The bars used, each as "diameter/length: lines". */
    Run dueBars(String want) {
        StringBuilder got = new StringBuilder();
        for (int k = 0; ask("pattern(" + k + ", 0)") != BarCutting.BAD; k++) {
            got.append(k == 0 ? "" : "; ").append(ask("pattern(" + k + ", 0)"));
            got.append('/').append(ask("pattern(" + k + ", 1)")).append(':');
            long pieces = ask("pattern(" + k + ", 2)");
            for (int i = 0; i < pieces; i++) {
                got.append(' ').append(ask("pattern(" + k + ", " + (3 + i) + ")"));
            }
        }
        check.due(name("cut [" + got + "] for [" + want + "]"), got.toString().equals(want), true);
        return this;
    }

    Run dueNothingCut() {
        due("loss(0)", -1).due("loss(1)", -1).due("loss(2)", -1).due("bound(0)", -1).due("bound(1)", -1);
        return due("proved()", false).due("pattern(0, 0)", -1);
    }

    /** On a twin: the call answers that, and behind it every call answers what it did without it. */
    Run refused(String call, long want) {
        if (told == null) {
            told = allAnswers(null);
        }
        check.due(name(call), twin().ask(call), want);
        List<String> behind = allAnswers(call);
        for (int i = 0; i < told.size(); i++) {
            if (!told.get(i).equals(behind.get(i))) {
                System.out.println(name(call) + " changes " + told.get(i) + " to " + behind.get(i));
            }
        }
        check.due(name(call) + " changes nothing", told.equals(behind), true);
        return this;
    }

    /** On twins: a long number (# in the call) is allowed from the least to the greatest alone. */
    Run longRange(String call, long least, long greatest, long allowed, long refused) {
        return inside(call, least, greatest, allowed).outsideLong(call, least, greatest, refused);
    }

    /** On twins: an int (# in the call) is allowed from the least to the greatest alone. */
    Run intRange(String call, int least, int greatest, long allowed, long refused) {
        return inside(call, least, greatest, allowed).outsideInt(call, least, greatest, refused);
    }

    /** Also numbers that would be allowed ones if they were cut to an int. */
    Run outsideLong(String call, long least, long greatest, long refused) {
        return outside(call, refused, least - 1, greatest + 1, least - WRAP, least + WRAP, greatest - WRAP,
                greatest + WRAP, Integer.MIN_VALUE, Integer.MAX_VALUE, Long.MIN_VALUE, Long.MAX_VALUE);
    }

    /** Also numbers that would be allowed ones if they were cut to fewer bits. */
    Run outsideInt(String call, int least, int greatest, long refused) {
        return outside(call, refused, least - 1, greatest + 1, least - 256, least + 256, greatest - 65536,
                least + 65536, Integer.MIN_VALUE, Integer.MIN_VALUE + greatest, Integer.MAX_VALUE);
    }

    private Run inside(String call, long least, long greatest, long allowed) {
        twin().due(put(call, least), allowed);
        twin().due(put(call, greatest), allowed);
        return this;
    }

    private Run outside(String call, long refused, long... numbers) {
        for (long number : numbers) {
            refused(put(call, number), refused);
        }
        return this;
    }

    private static String put(String call, long number) {
        return call.replace("#", Long.toString(number));
    }

    /** What all calls answer behind this run's and one more: on twins, for none may be called too often. */
    private List<String> allAnswers(String more) {
        List<String> all = new ArrayList<>();
        Run twin = twinWith(more);
        for (String question : Probes.QUESTIONS) {
            if (twin.calls.size() == MOST_CALLS) {
                twin = twinWith(more);
            }
            all.add(question + " = " + twin.ask(question));
        }
        for (String[] changes : Probes.CHANGES) {
            twin = twinWith(more);
            for (String change : changes) {
                all.add(change + " = " + twin.ask(change));
            }
        }
        return all;
    }

    private Run twinWith(String more) {
        Run twin = twin();
        return more == null ? twin : twin.does(more);
    }

    private String name(String call) {
        return sentence + ": " + call;
    }
}
