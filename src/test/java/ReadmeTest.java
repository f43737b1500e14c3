import java.io.IOException;
import java.nio.charset.StandardCharsets;
import java.nio.file.Files;
import java.nio.file.Path;
import java.util.ArrayList;
import java.util.HashMap;
import java.util.List;
import java.util.Map;
import java.util.Set;
import java.util.TreeSet;
import java.util.regex.Matcher;
import java.util.regex.Pattern;

/**
 * README.md: the calls that stand in its Java parts are made as they stand there, and answer what
 * stands behind them. A remark behind a call begins with its answer, so that none is only told.
 */
public final class ReadmeTest {
    private static final Check CHECK = new Check("ReadmeTest");
    private static final Pattern CALL = Pattern.compile("(?:(int|long|boolean) (\\w+) = )?x\\.(\\w+\\([^()]*\\))");
    private static final Pattern NEW = Pattern.compile("BarCutting x = new BarCutting\\(\\)");
    private static final Pattern ANSWER = Pattern.compile("(true|false|BAD|-?\\d+|'.')(: .*)?");
    private static final Pattern SIGN = Pattern.compile("'(.)'");

    private final Map<String, Long> names = new HashMap<>();
    private final Set<String> answered = new TreeSet<>();
    private Caller caller;
    private int calls;

    public static void main(String[] args) throws IOException {
        Path readme = Path.of("README.md");
        new ReadmeTest().hold(Files.readAllLines(readme, StandardCharsets.UTF_8));
        CHECK.end();
    }

    private void hold(List<String> readme) {
        for (String row : javaRows(readme)) {
            holdRow(row);
        }
        CHECK.due("README.md makes more than 512 calls", calls > Run.MOST_CALLS, false);
        for (String method : new String[] {"unit", "shape", "rule", "bar", "leg", "length", "stock", "run", "loss",
            "bound", "proved", "pattern", "place", "command", "clash", "lap", "weight", "tag", "differs", "order"}) {
            CHECK.due("README.md tells what " + method + "() answers", answered.contains(method), true);
        }
    }

    private static List<String> javaRows(List<String> readme) {
        List<String> rows = new ArrayList<>();
        boolean inside = false;
        for (String row : readme) {
            if (row.startsWith("```")) {
                inside = row.equals("```java");
            } else if (inside && !row.isBlank()) {
                rows.add(row);
            }
        }
        return rows;
    }

    private void holdRow(String row) {
        int remark = row.indexOf("//");
        String code = (remark < 0 ? row : row.substring(0, remark)).trim();
        String last = "";
        long got = 0;
        for (String statement : code.split("; *")) {
            Matcher call = CALL.matcher(statement);
            if (NEW.matcher(statement).matches()) {
                caller = new Caller(new BarCutting());
                calls = 0;
            } else if (caller != null && call.matches()) {
                last = call.group(3);
                got = make(call);
            } else {
                CHECK.due("README.md: [" + statement + "] can be made", false, true);
            }
        }
        CHECK.due("README.md: [" + row + "] ends as a statement does", code.endsWith(";"), true);
        if (remark >= 0) {
            holdAnswer(row, last, got, row.substring(remark + 2).trim());
        }
    }

    private long make(Matcher call) {
        calls++;
        long got = caller.answer(withNumbers(call.group(3)));
        if (call.group(2) != null) {
            names.put(call.group(2), got);
        }
        return got;
    }

    /** Signs and names become the numbers that they stand for. */
    private String withNumbers(String call) {
        String numbers = SIGN.matcher(call).replaceAll(sign -> Integer.toString(sign.group(1).charAt(0)));
        for (Map.Entry<String, Long> name : names.entrySet()) {
            numbers = numbers.replaceAll("\\b" + name.getKey() + "\\b(?!\\()", name.getValue().toString());
        }
        return numbers;
    }

    private void holdAnswer(String row, String call, long got, String remark) {
        Matcher answer = ANSWER.matcher(remark);
        boolean told = answer.matches() && !call.isEmpty();
        CHECK.due("README.md: [" + row + "] tells an answer", told, true);
        if (!told) {
            return;
        }
        String want = answer.group(1);
        boolean isWord = want.equals("true") || want.equals("false");
        CHECK.due("README.md: [" + row + "] tells an answer of its kind", isWord, caller.isTrueOrFalse(call));
        CHECK.due("README.md: [" + row + "]", got, number(want));
        answered.add(call.substring(0, call.indexOf('(')));
    }

    private static long number(String answer) {
        switch (answer) {
            case "true":
                return 1;
            case "false":
                return 0;
            case "BAD":
                return BarCutting.BAD;
            default:
                return answer.startsWith("'") ? answer.charAt(1) : Long.parseLong(answer);
        }
    }
}
