import java.util.ArrayList;
import java.util.List;

/**
 * A loom with a text and a scrap, calls on it, and what is due then. The calls are made again on a
 * new loom for each thing that is asked: one loom has too few calls to read a full text.
 */
final class Trial {
    static final int LEAST = Integer.MIN_VALUE;
    static final int MOST = Integer.MAX_VALUE;
    static final String FORTY = "abcdefghijklmnopqrstuvwxyzABCDEFGHIJKLMN";
    static final String FULL = FORTY.repeat(75);

    private static final int READ_AT_ONCE = 250;

    private record Call(String name, Object[] args) {
    }

    private final String startText;
    private final String startScrap;
    private final List<Call> calls = new ArrayList<>();

    private Trial(String text, String scrap) {
        startText = text;
        startScrap = scrap;
    }

    static Trial given(String text, String scrap) {
        return new Trial(text, scrap);
    }

    /** A text of so many signs, of which no two neighbours are alike. */
    static String textOf(int count) {
        return FULL.substring(0, count);
    }

    Trial call(String name, Object... args) {
        calls.add(new Call(name, args));
        return this;
    }

    /** What the last call answers. */
    Trial answers(int due) {
        CountedLoom loom = new CountedLoom(startText, startScrap);
        int answer = 0;
        for (Call call : calls) {
            answer = loom.call(call.name, call.args);
        }
        Cases.CHECKS.due(shown(), answer, due);
        return this;
    }

    /** The whole text and scrap after the calls, as calls that read and calls that write tell them. */
    Trial leaves(String text, String scrap) {
        readCounts(text, scrap);
        for (int from = 0; from < text.length(); from += READ_AT_ONCE) {
            readText(text, from, Math.min(from + READ_AT_ONCE, text.length()));
        }
        readScrap(scrap);
        writeOn(text, scrap);
        return this;
    }

    /** The only call answers so, and neither the text nor the scrap is changed. */
    void isRefused(int due) {
        answers(due);
        leaves(startText, startScrap);
    }

    private void readCounts(String text, String scrap) {
        CountedLoom loom = played();
        due(loom, text.length(), "look", 0);
        due(loom, scrap.length(), "look", 1);
        due(loom, Checks.sumOf(text), "look", 2);
        due(loom, Integer.signum(text.compareTo(scrap)), "compare");
        due(loom, text.indexOf(scrap), "find", 0, false);
        due(loom, text.lastIndexOf(scrap), "find", text.length(), true);
        due(loom, -1, "get", text.length());
        due(loom, -1, "scrap", scrap.length());
    }

    private void readText(String text, int from, int to) {
        CountedLoom loom = played();
        for (int place = from; place < to; place++) {
            due(loom, text.charAt(place), "get", place);
        }
    }

    private void readScrap(String scrap) {
        CountedLoom loom = played();
        for (int k = 0; k < scrap.length(); k++) {
            due(loom, scrap.charAt(k), "scrap", k);
        }
    }

    private void writeOn(String text, String scrap) {
        CountedLoom loom = played();
        due(loom, scrap.length() < 40 ? scrap.length() + 1 : -3, "note", (int) '!');
        due(loom, Math.min(scrap.length() + 1, 40), "drop");
        due(loom, text.length() < 3000 ? text.length() + 1 : -3, "add", 3, (int) '?');
        String longer = text.length() < 3000 ? text + "?" : text;
        due(loom, longer.charAt(longer.length() - 1), "take", longer.length() - 1);
        due(loom, longer.length() - 1, "turn");
        due(loom, longer.length(), "length", longer.length());
        due(loom, 0, "get", longer.length() - 1);
    }

    private CountedLoom played() {
        CountedLoom loom = new CountedLoom(startText, startScrap);
        for (Call call : calls) {
            loom.call(call.name, call.args);
        }
        return loom;
    }

    private void due(CountedLoom loom, int due, String name, Object... args) {
        Cases.CHECKS.due(shown() + ", then " + CountedLoom.shown(name, args), loom.call(name, args), due);
    }

    private String shown() {
        StringBuilder all = new StringBuilder();
        all.append(startText.length()).append(" signs, ").append(startScrap.length()).append(" in the scrap: ");
        for (Call call : calls) {
            all.append(CountedLoom.shown(call.name, call.args)).append(' ');
        }
        return all.toString().trim();
    }
}
