import java.util.ArrayList;
import java.util.List;

/**
 * A sentence of the document that names a boundary, and a run of calls on a new object that shows it.
 * A row is a call and the answer that is due: "look(0, 50, 3) = 1". "8 x line(0, i, 0) = 0 on" makes it
 * eight times, i from 0 on, and the answers go on from 0. A row without an answer is no more than not
 * refused. What stands behind # says why. Every refusal that is due must be counted and change nothing.
 */
final class Edge {
    private static final int CODES = 6;

    private final String sentence;
    private final List<Call> calls = new ArrayList<>();
    private final List<Integer> wants = new ArrayList<>();

    private Edge(String sentence) {
        this.sentence = sentence;
    }

    static void holds(String sentence, String rows) {
        Edge edge = new Edge(sentence);
        for (String line : rows.split("\n")) {
            String row = line.replaceAll("#.*", "").trim();
            if (!row.isEmpty()) {
                edge.read(row);
            }
        }
        edge.run();
        edge.refusedOnesChangeNothing();
    }

    private void read(String row) {
        String[] sides = row.split("=");
        String want = sides.length > 1 ? sides[1].trim() : null;
        boolean goesOn = want != null && want.endsWith(" on");
        String text = sides[0].trim();
        int times = 1;
        if (text.matches("\\d+ x .*")) {
            times = Integer.parseInt(text.substring(0, text.indexOf(' ')));
            text = text.substring(text.indexOf('x') + 1).trim();
        }
        for (int i = 0; i < times; i++) {
            calls.add(Call.read(text.replaceAll("\\bi\\b", Integer.toString(i))));
            if (want == null) {
                wants.add(null);
            } else {
                wants.add(Call.number(want.replace(" on", "")) + (goesOn ? i : 0));
            }
        }
    }

    private void run() {
        LineWalkers x = new LineWalkers();
        int[] refusals = new int[CODES + 1];
        for (int i = 0; i < calls.size(); i++) {
            Call call = calls.get(i);
            int got = call.on(x);
            if (wants.get(i) == null) {
                Check.due(name(i) + " is refused", call.refusalIn(got), 0);
            } else {
                Check.due(name(i), got, wants.get(i));
                refusals[-call.refusalIn(wants.get(i))]++;
            }
        }
        Check.that(sentence + ": no more than 512 calls", calls.size() + CODES <= Twins.MOST_CALLS);
        for (int code = 1; code <= CODES; code++) {
            Check.due(sentence + ": refusals -" + code, x.count(10 + code), refusals[code]);
        }
    }

    private void refusedOnesChangeNothing() {
        for (int i = 0; i < calls.size(); i++) {
            if (wants.get(i) != null && calls.get(i).refusalIn(wants.get(i)) != 0) {
                Twins.compare(sentence, calls.subList(0, i), calls.get(i));
            }
        }
    }

    private String name(int at) {
        return sentence + ": row " + (at + 1) + ", " + calls.get(at);
    }
}
