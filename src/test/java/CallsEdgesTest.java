/** The boundary cases of "What it is" (how many calls) and "The public face" (which numbers are long). */
public final class CallsEdgesTest {
    private static final Check CHECK = new Check("CallsEdgesTest");

    public static void main(String[] args) {
        everyCallAsThe512th();
        changesUpToThe512th();
        runsUpToThe512th();
        textsUpToThe512th();
        longNumbersFarOutside();
        intNumbersFarOutside();
        everyNumberFarOutside();
        CHECK.end();
    }

    /** What it is: "An object is used for at most 512 calls": the last one answers as an earlier one did. */
    private static void everyCallAsThe512th() {
        String[] changes = {"unit(65)", "shape()", "rule(10, 30)", "bar(0, 10, 1)", "leg(0, 0, 5)", "stock(4, 9, 9)",
            "run(0)", "run(8)", "place(3, 1, 2, 3)"};
        Run early = Run.ordinary(CHECK, "the 512th call");
        for (String change : changes) {
            untilThe511th(early.twin()).due(change, early.twin().ask(change));
        }
        for (String question : Probes.QUESTIONS) {
            untilThe511th(early.twin()).due(question, early.twin().ask(question));
        }
        Run full = Run.full(CHECK, "the 512th call, all being full");
        untilThe511th(full.twin()).due("unit(65)", false);
        untilThe511th(full.twin()).due("bar(0, 10, 1)", -1);
        untilThe511th(full.twin()).due("stock(10, 9, 9)", false);
        untilThe511th(full.twin()).due("shape()", -2);
        // Ten bars of 200, one of which has room for the shortest piece, and one of 5,000.
        untilThe511th(full.twin()).due("run(8)", 11);
        untilThe511th(full.twin()).due("length(11, 2)", 1000);
    }

    private static Run untilThe511th(Run run) {
        for (int i = 0; run.calls() < Run.MOST_CALLS - 1; i++) {
            run.ask(Probes.QUESTIONS.get(i % Probes.QUESTIONS.size()));
        }
        return run;
    }

    /** What it is: "at most 512 calls", all of which change something. */
    private static void changesUpToThe512th() {
        Run legs = new Run(CHECK, "512 calls, legs").shape("A").line(0, 10, 1);
        while (legs.calls() < Run.MOST_CALLS - 1) {
            legs.due("leg(0, 0, " + legs.calls() + ")", true);
        }
        legs.due("length(0, 0)", Run.MOST_CALLS - 2);
        Run rules = new Run(CHECK, "512 calls, rules").shape("ALB").line(0, 10, 1, 1000);
        while (rules.calls() < Run.MOST_CALLS - 1) {
            rules.due("rule(10, " + rules.calls() % 501 + ")", true);
        }
        rules.due("length(0, 0)", 1000 - (Run.MOST_CALLS - 2) % 501);
        Run places = new Run(CHECK, "512 calls, places").shape("A").line(0, 10, 1, 5).line(0, 10, 1, 5);
        places.does("place(0, 0, 0, 0)");
        while (places.calls() < Run.MOST_CALLS - 1) {
            places.due("place(1, " + (Run.MOST_CALLS - 2 - places.calls()) + ", 0, 0)", true);
        }
        places.due("clash(0, 1)", 1);
    }

    /** What it is: "at most 512 calls", all of which cut: no run takes from the stock of the next. */
    private static void runsUpToThe512th() {
        Run run = new Run(CHECK, "512 calls, runs").shape("A").line(0, 10, 5, 60).line(0, 10, 3, 39).line(0, 12, 5, 7);
        run.does("stock(10, 100, 5)", "stock(12, 14, 3)");
        while (run.calls() < Run.MOST_CALLS) {
            run.due("run(" + run.calls() % 9 + ")", 8);
        }
    }

    /** What it is: "at most 512 calls", all of which tell texts. */
    private static void textsUpToThe512th() {
        Run run = new Run(CHECK, "512 calls, texts");
        for (int i = 0; i < 126; i++) {
            run.dueShape("ALX", -3);
        }
        run.dueShape("ALB", 0).due("bar(0, 10, 1)", 0).due("length(0, 4)", 0).due("tag(0, 7)", 'B').due("tag(0, 8)", -1);
    }

    /** The public face: a long number that would be an allowed one if it were cut to an int is refused. */
    private static void longNumbersFarOutside() {
        String[] flags = {"rule(10, #)", "leg(0, 0, #)", "stock(10, #, 1)", "place(0, #, 0, 0)", "place(0, 0, #, 0)",
            "place(0, 0, 0, #)"};
        Run run = Run.ordinary(CHECK, "a long number is not cut");
        for (String call : flags) {
            refusedFar(run, call, 7, 0);
        }
        refusedFar(run, "run(#)", 7, -1);
        refusedFar(run, "lap(0, #)", 7, -1);
    }

    private static void refusedFar(Run run, String call, long allowed, long refused) {
        CHECK.due(call + " of " + allowed, run.twin().ask(call.replace("#", "" + allowed)) == refused, false);
        for (int bit = 31; bit < 64; bit++) {
            run.refused(call.replace("#", Long.toString(allowed ^ 1L << bit)), refused);
            run.refused(call.replace("#", Long.toString(-allowed ^ 1L << bit)), refused);
        }
    }

    /** The public face: an int far outside is refused, also one whose lowest bits are those of an allowed one. */
    private static void intNumbersFarOutside() {
        String[] flags = {"unit(#)", "rule(#, 5)", "leg(#, 0, 5)", "leg(0, #, 5)", "stock(#, 9, 1)", "stock(10, 9, #)",
            "place(#, 0, 0, 0)"};
        String[] numbers = {"bar(#, 10, 1)", "bar(0, #, 1)", "bar(0, 10, #)", "length(#, 0)", "length(0, #)", "loss(#)",
            "bound(#)", "pattern(#, 0)", "pattern(0, #)", "command(#, 0)", "command(0, #)", "clash(#, 1)", "clash(1, #)",
            "lap(#, 0)", "weight(#, 0)", "weight(0, #)", "tag(#, 0)", "tag(0, #)", "differs(#, 1, 0)", "differs(1, #, 0)",
            "differs(0, 1, #)", "order(#)"};
        Run run = Run.ordinary(CHECK, "an int is not cut");
        for (int bit = 7; bit < 32; bit++) {
            for (int low : new int[] {0, 4, 10, 65}) {
                int far = low + (1 << bit);
                for (String call : flags) {
                    run.twin().due(call.replace("#", "" + far), 0);
                }
                for (String call : numbers) {
                    run.twin().due(call.replace("#", "" + far), -1);
                }
            }
        }
    }

    /** The public face: all numbers of a call far outside at once. */
    private static void everyNumberFarOutside() {
        String[] flags = {"unit(i)", "rule(i, l)", "leg(i, i, l)", "stock(i, l, i)", "place(i, l, l, l)"};
        String[] numbers = {"bar(i, i, i)", "length(i, i)", "run(l)", "loss(i)", "bound(i)", "pattern(i, i)",
            "command(i, i)", "clash(i, i)", "lap(i, l)", "weight(i, i)", "tag(i, i)", "differs(i, i, i)", "order(i)"};
        long[][] ends = {{Integer.MIN_VALUE, Long.MIN_VALUE}, {Integer.MAX_VALUE, Long.MAX_VALUE}};
        for (long[] end : ends) {
            for (Run run : new Run[] {new Run(CHECK, "far outside, nothing being there"),
                Run.ordinary(CHECK, "far outside"), Run.full(CHECK, "far outside, all being full")}) {
                for (String call : flags) {
                    run.refused(put(call, end), 0);
                }
                for (String call : numbers) {
                    run.refused(put(call, end), -1);
                }
            }
        }
    }

    private static String put(String call, long[] end) {
        int open = call.indexOf('(');
        String inside = call.substring(open).replace("i", Long.toString(end[0])).replace("l", Long.toString(end[1]));
        return call.substring(0, open) + inside;
    }
}
