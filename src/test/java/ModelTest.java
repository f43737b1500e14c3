import java.util.List;

/** Promises 1 to 21 together: runs of 512 calls drawn by lot, each answer held against the model's. */
public final class ModelTest {
    private static final Check CHECK = new Check("ModelTest");
    private static final int SEEDS = 1000;

    public static void main(String[] args) {
        int seeds = args.length > 0 ? Integer.parseInt(args[0]) : SEEDS;
        for (long seed = 0; seed < seeds; seed++) {
            hold(seed, new Drawn(seed).run(Run.MOST_CALLS));
        }
        CHECK.end();
    }

    private static void hold(long seed, List<String> calls) {
        Caller got = new Caller(new BarCutting());
        Caller due = new Caller(new Model());
        for (int i = 0; i < calls.size(); i++) {
            String call = calls.get(i);
            CHECK.due("seed " + seed + ", call " + i + ": " + call, got.answer(call), due.answer(call));
        }
    }
}
