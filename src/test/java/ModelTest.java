/**
 * Long runs of mixed calls, each answer and state held against a plain model made of the Java
 * library's own texts. The runs are the same every time.
 */
public final class ModelTest {
    private static final int RUNS = 2000;
    // Each is followed by a look, and the state at the end takes some hundred calls: 512 at most.
    private static final int CALLS = 190;
    private static final int[] START_LENGTHS = {0, 0, 0, 20, 2960, 3000};
    private static final int[] ODD = {-1, -2, 3, 4, 40, 41, 2999, 3000, 3001, 55295, 55296, 57343, 57344,
        65535, 65536, Integer.MIN_VALUE, Integer.MAX_VALUE};
    private static final long[] ODD_LONGS = {0, 1, -1, 9, 10, -10, 65535, 65536, 4294967296L,
        4294967361L, Long.MAX_VALUE, Long.MIN_VALUE};

    private static final Checks checks = new Checks();
    private static long seed = 20261115;

    public static void main(String[] args) {
        for (int run = 0; run < RUNS; run++) {
            checks.about("run " + run);
            oneRun(START_LENGTHS[run % START_LENGTHS.length]);
        }
        checks.end();
    }

    private static void oneRun(int startLength) {
        TextLoom loom = new TextLoom();
        Model model = new Model();
        checks.due("length(" + startLength + ")", loom.length(startLength), model.length(startLength));
        for (int call = 1; call < CALLS; call++) {
            oneCall(loom, model);
            checks.due("look(2) after it", loom.look(2), Checks.sumOf(model.text.toString()));
        }
        checks.dueState("at the end", loom, model.text.toString(), model.scrap);
    }

    private static void oneCall(TextLoom loom, Model model) {
        int a = place(model);
        int b = upTo(3) == 0 ? place(model) : a + upTo(45);
        int sign = upTo(12) == 0 ? odd() : 'a' + upTo(2);
        long number = upTo(3) == 0 ? ODD_LONGS[upTo(ODD_LONGS.length)] : upTo(500) - 250;
        int what = upTo(20) == 0 ? odd() : upTo(4);
        boolean yes = upTo(2) == 0;
        String with = "(a " + a + ", b " + b + ", sign " + sign + ", number " + number + ", what " + what
                + ", " + yes + ")";
        switch (upTo(20)) {
            case 0, 1, 2 -> checks.due("note" + with, loom.note(sign), model.note(sign));
            case 3 -> {
                if (upTo(4) == 0) {
                    checks.due("drop" + with, loom.drop(), model.drop());
                }
            }
            case 4, 5 -> checks.due("add" + with, loom.add(what, number), model.add(what, number));
            case 6 -> checks.due("add a sign" + with, loom.add(3, sign), model.add(3, sign));
            case 7 -> checks.due("insert" + with, loom.insert(a, yes, number), model.insert(a, yes, number));
            case 8 -> checks.due("cut" + with, loom.cut(a, b), model.swap(a, b, ""));
            case 9 -> checks.due("swap" + with, loom.swap(a, b), model.swap(a, b, model.scrap));
            case 10 -> checks.due("take" + with, loom.take(a), model.take(a));
            case 11 -> checks.due("set" + with, loom.set(a, sign), model.set(a, sign));
            case 12 -> checks.due("get" + with, loom.get(a), model.get(a));
            case 13 -> checks.due("turn" + with, loom.turn(), model.turn());
            case 14, 15 -> checks.due("find" + with, loom.find(a, yes), model.find(a, yes));
            case 16 -> {
                int n = upTo(3) == 0 ? odd() : model.text.length() + upTo(9) - 4;
                checks.due("length(" + n + ")", loom.length(n), model.length(n));
            }
            case 17 -> checks.due("lift" + with, loom.lift(a, b), model.lift(a, b));
            case 18 -> {
                int k = upTo(44) - 2;
                checks.due("scrap(" + k + ")", loom.scrap(k), model.scrapSign(k));
            }
            default -> checks.due("compare" + with, loom.compare(), model.compare());
        }
    }

    private static int place(Model model) {
        return upTo(15) == 0 ? odd() : upTo(model.text.length() + 3) - 1;
    }

    private static int odd() {
        return ODD[upTo(ODD.length)];
    }

    private static int upTo(int bound) {
        seed = seed * 6364136223846793005L + 1442695040888963407L;
        return (int) ((seed >>> 33) % bound);
    }

    private static final class Model {
        private final StringBuilder text = new StringBuilder();
        private String scrap = "";

        int note(int sign) {
            if (!isSign(sign)) {
                return -1;
            }
            if (scrap.length() == 40) {
                return -3;
            }
            scrap += (char) sign;
            return scrap.length();
        }

        int drop() {
            int had = scrap.length();
            scrap = "";
            return had;
        }

        int add(int what, long number) {
            if (what < 0 || what > 3 || what == 3 && !isSign(number)) {
                return -1;
            }
            String[] all = {Long.toString(number), Boolean.toString(number != 0), scrap,
                String.valueOf((char) number)};
            return swap(text.length(), text.length(), all[what]);
        }

        int insert(int place, boolean digits, long number) {
            return swap(place, place, digits ? Long.toString(number) : scrap);
        }

        int swap(int from, int to, String with) {
            if (from < 0 || from > text.length() || to < from) {
                return -1;
            }
            StringBuilder after = new StringBuilder(text).replace(from, to, with);
            if (after.length() > 3000) {
                return -3;
            }
            text.setLength(0);
            text.append(after);
            return text.length();
        }

        int take(int place) {
            int was = get(place);
            if (was >= 0) {
                text.deleteCharAt(place);
            }
            return was;
        }

        int set(int place, int sign) {
            int was = isSign(sign) ? get(place) : -1;
            if (was >= 0) {
                text.setCharAt(place, (char) sign);
            }
            return was;
        }

        int get(int place) {
            return place < 0 || place >= text.length() ? -1 : text.charAt(place);
        }

        int turn() {
            return text.reverse().length();
        }

        int find(int place, boolean last) {
            return last ? text.lastIndexOf(scrap, place) : text.indexOf(scrap, place);
        }

        int length(int n) {
            if (n < 0 || n > 3000) {
                return n < 0 ? -1 : -3;
            }
            text.setLength(n);
            return n;
        }

        int lift(int from, int to) {
            if (from < 0 || to < from || to > text.length()) {
                return -1;
            }
            if (to - from > 40) {
                return -3;
            }
            scrap = text.substring(from, to);
            return scrap.length();
        }

        int scrapSign(int k) {
            return k < 0 || k >= scrap.length() ? -1 : scrap.charAt(k);
        }

        int compare() {
            return Integer.signum(text.toString().compareTo(scrap));
        }

        private static boolean isSign(long number) {
            return number >= 0 && number <= 65535 && !(number >= 0xD800 && number <= 0xDFFF);
        }
    }
}
