import java.util.ArrayList;
import java.util.List;
import java.util.regex.Matcher;
import java.util.regex.Pattern;

/**
 * A run of calls on a new object, written as text: "post(0, 1, 0) = 0; post(40, 1, 0) = -1". A call without an answer
 * must not be refused. The run is done again on another object without the calls that were refused, and must go alike:
 * what is refused changes nothing.
 */
final class EdgeRun {
    /** The document says nothing of what an object answers behind so many calls. */
    private static final int MOST_CALLS = 512;
    private static final Pattern CALL = Pattern.compile("(\\w+)\\(([^)]*)\\)(?: = (-?\\d+))?");

    private final String title;
    private final List<int[]> calls = new ArrayList<>();
    private final List<String> texts = new ArrayList<>();
    private final List<Integer> dues = new ArrayList<>();
    private final List<Integer> refusedKinds = new ArrayList<>();

    EdgeRun(String title, String script) {
        this.title = title;
        for (String text : script.split(";")) {
            if (!text.isBlank()) {
                read(text.strip());
            }
        }
    }

    private void read(String text) {
        Matcher parts = CALL.matcher(text);
        if (!parts.matches()) {
            throw new IllegalArgumentException("no call: " + text);
        }
        int kind = Calls.kindOf(parts.group(1));
        String[] arguments = parts.group(2).isEmpty() ? new String[0] : parts.group(2).split(",");
        if (arguments.length != Calls.ARGUMENTS[kind]) {
            throw new IllegalArgumentException("arguments: " + text);
        }
        int[] call = {kind, 0, 0, 0, 0};
        for (int i = 0; i < arguments.length; i++) {
            call[i + 1] = number(arguments[i].strip());
        }
        calls.add(call);
        texts.add(text);
        dues.add(parts.group(3) == null ? null : Integer.valueOf(parts.group(3)));
    }

    private static int number(String text) {
        return text.equals("MIN") ? Integer.MIN_VALUE : text.equals("MAX") ? Integer.MAX_VALUE : Integer.parseInt(text);
    }

    /** Does the run: which kinds of calls were refused in it. */
    List<Integer> go() {
        Due.holds(title + ": a run has at most 512 calls, not " + calls.size(), calls.size() <= MOST_CALLS);
        ModeratorsBench x = new ModeratorsBench();
        ModeratorsBench withoutRefused = new ModeratorsBench();
        for (int i = 0; i < calls.size(); i++) {
            int answer = answer(x, calls.get(i));
            String told = title + ": call " + (i + 1) + ", " + texts.get(i);
            if (dues.get(i) == null) {
                Due.holds(told + " answered " + answer + ", but is not to be refused", answer >= 0);
            } else {
                Due.is(told, answer, dues.get(i));
            }
            if (isRefused(i)) {
                refusedKinds.add(calls.get(i)[0]);
            } else {
                Due.is(told + ", without the refused calls", answer(withoutRefused, calls.get(i)), answer);
            }
        }
        if (!refusedKinds.isEmpty()) {
            probe(x, withoutRefused);
        }
        return refusedKinds;
    }

    private static int answer(ModeratorsBench x, int[] call) {
        return Calls.call(x, call[0], call[1], call[2], call[3], call[4]);
    }

    private boolean isRefused(int i) {
        int kind = calls.get(i)[0];
        boolean mayBeMinusOne = kind == Calls.KNOWN || kind == Calls.WRITER && calls.get(i)[2] == 6;
        return dues.get(i) != null && dues.get(i) < 0 && !(mayBeMinusOne && dues.get(i) == -1);
    }

    /** Asks both benches as much as the calls that are left allow; the last questions change what they ask of. */
    private void probe(ModeratorsBench x, ModeratorsBench y) {
        int left = MOST_CALLS - calls.size();
        for (String question : questions(x.count(0))) {
            if (left-- <= 1) {
                return;
            }
            int[] call = new EdgeRun(title, question).calls.get(0);
            Due.is(title + ": at last " + question + ", against a run without the refused calls",
                answer(x, call), answer(y, call));
        }
    }

    private static List<String> questions(int posts) {
        StringBuilder all = new StringBuilder();
        all.append(Edges.each(0, 5, "count(#);")).append("late(); check();");
        all.append("due(0, 1); due(1, 1); due(2, 1); limit(100);");
        for (int j : new int[] {0, 1, 19}) {
            all.append(Edges.each(0, 7, "told(" + j + ", #);")).append("next(" + j + "); kin(" + j + ", 0, 1);")
                .append("kin(" + j + ", 39, 1);");
        }
        for (int w : new int[] {0, 39}) {
            all.append(Edges.each(0, 6, "writer(" + w + ", #);"));
        }
        for (int c = 0; c < 5; c++) {
            all.append(Edges.each(0, 7, "about(" + c + ", #);")).append(Edges.each(0, 2, "judged(" + c + ", #);"))
                .append("level(#); hidden(#); like(#, 8); unlike(#, 8); known(#, -1);".replace("#", "" + c));
        }
        all.append("post(0, 1, 0);").append(Edges.each(0, 7, "complain(" + posts + ", #);"));
        all.append(Edges.each(1, 20, "undo();")).append("count(3)");
        return List.of(all.toString().replace("; ", ";").split(";"));
    }
}
