/** What the tests share: asking, counting what is wrong, and reading an object's whole state. */
final class Checks {
    private static final int READ_AT_AN_END = 30;

    private int asked = 0;
    private int wrong = 0;
    private String topic = "";

    void about(String newTopic) {
        topic = newTopic;
    }

    int asked() {
        return asked;
    }

    int wrong() {
        return wrong;
    }

    void due(String call, Object got, Object want) {
        asked++;
        if (!got.equals(want)) {
            wrong++;
            System.out.println(topic + ": " + call + " answered " + got + ", due is " + want);
        }
    }

    /**
     * The state as the calls that only read tell it. Of a long text the sum and both ends are read,
     * since an object promises nothing after 512 calls.
     */
    void dueState(String when, TextLoom loom, String text, String scrap) {
        due("signs in the text " + when, loom.look(0), text.length());
        due("sum of the text " + when, loom.look(2), sumOf(text));
        int ends = Math.min(text.length(), READ_AT_AN_END);
        due("text " + when, shown(textOf(loom, 0, ends)), shown(text.substring(0, ends)));
        int behind = Math.max(ends, text.length() - READ_AT_AN_END);
        due("end of the text " + when, shown(textOf(loom, behind, text.length())),
                shown(text.substring(behind)));
        due("scrap " + when, shown(scrapOf(loom)), shown(scrap));
    }

    void end() {
        System.out.println(wrong == 0
                ? "all " + asked + " answers are as due"
                : wrong + " of " + asked + " answers are not as due");
        if (wrong != 0) {
            System.exit(1);
        }
    }

    /** Signs 0 come by length, so that a long text of them takes few calls. */
    static TextLoom loomWith(String text, String scrap) {
        TextLoom loom = new TextLoom();
        for (int k = 0; k < text.length(); k++) {
            if (text.charAt(k) != 0) {
                loom.length(k);
                loom.add(3, text.charAt(k));
            }
        }
        loom.length(text.length());
        for (int k = 0; k < scrap.length(); k++) {
            loom.note(scrap.charAt(k));
        }
        return loom;
    }

    static int sumOf(String text) {
        int sum = 0;
        for (int k = 0; k < text.length(); k++) {
            sum += (k + 1) * text.charAt(k);
        }
        return sum;
    }

    private static String textOf(TextLoom loom, int from, int to) {
        StringBuilder text = new StringBuilder();
        for (int k = from; k < to; k++) {
            text.append((char) loom.get(k));
        }
        return text.toString();
    }

    private static String scrapOf(TextLoom loom) {
        StringBuilder scrap = new StringBuilder();
        int count = loom.look(1);
        for (int k = 0; k < count; k++) {
            scrap.append((char) loom.scrap(k));
        }
        return scrap.toString();
    }

    // Signs that a terminal can't show would make a wrong answer hard to read.
    private static String shown(String signs) {
        StringBuilder out = new StringBuilder().append(signs.length()).append(" signs ");
        for (int k = 0; k < signs.length(); k++) {
            char sign = signs.charAt(k);
            if (sign >= ' ' && sign <= '~') {
                out.append(sign);
            } else {
                out.append('{').append((int) sign).append('}');
            }
        }
        return out.toString();
    }
}
