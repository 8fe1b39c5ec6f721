/** A text that is woven: written to, cut, turned round and searched at any place. */
public final class TextLoom {
    private static final int TEXT_LIMIT = 3000;
    private static final int SCRAP_LIMIT = 40;

    private static final int OUT_OF_RANGE = -1;
    private static final int NONE = -1;
    private static final int TOO_LONG = -3;

    private static final int SIGN_LIMIT = 65536;
    private static final int FIRST_HALF = 55296;
    private static final int LAST_HALF = 57343;

    private static final int MOST_DIGITS = 19;

    private static final int DIGITS = 0;
    private static final int TRUTH = 1;
    private static final int SCRAP = 2;
    private static final int SIGN = 3;

    private static final int TEXT_COUNT = 0;
    private static final int SCRAP_COUNT = 1;
    private static final int TEXT_SUM = 2;

    // Whole from the start, so that no later call makes an object.
    private final int[] textSigns;
    private final int[] scrapSigns;
    private int textCount;
    private int scrapCount;

    public TextLoom() {
        textSigns = new int[TEXT_LIMIT];
        scrapSigns = new int[SCRAP_LIMIT];
        textCount = 0;
        scrapCount = 0;
    }

    public int note(int sign) {
        if (!isSign(sign)) {
            return OUT_OF_RANGE;
        }
        if (scrapCount >= SCRAP_LIMIT) {
            return TOO_LONG;
        }
        scrapSigns[scrapCount] = sign;
        scrapCount++;
        return scrapCount;
    }

    public int drop() {
        int had = scrapCount;
        scrapCount = 0;
        return had;
    }

    public int add(int what, long number) {
        switch (what) {
            case DIGITS:
                return putDigits(textCount, number);
            case TRUTH:
                return putWord(textCount, number == 0 ? "false" : "true");
            case SCRAP:
                return putScrap(textCount, textCount);
            case SIGN:
                return isSign(number) ? putSign(textCount, (int) number) : OUT_OF_RANGE;
            default:
                return OUT_OF_RANGE;
        }
    }

    public int insert(int place, boolean digits, long number) {
        if (!isPlaceOrEnd(place)) {
            return OUT_OF_RANGE;
        }
        return digits ? putDigits(place, number) : putScrap(place, place);
    }

    public int cut(int from, int to) {
        if (!isPlaceOrEnd(from) || to < from) {
            return OUT_OF_RANGE;
        }
        makeGap(from, Math.min(to, textCount), 0);
        return textCount;
    }

    public int swap(int from, int to) {
        if (!isPlaceOrEnd(from) || to < from) {
            return OUT_OF_RANGE;
        }
        return putScrap(from, Math.min(to, textCount));
    }

    public int take(int place) {
        if (!isPlace(place)) {
            return OUT_OF_RANGE;
        }
        int taken = textSigns[place];
        makeGap(place, place + 1, 0);
        return taken;
    }

    public int set(int place, int sign) {
        if (!isPlace(place) || !isSign(sign)) {
            return OUT_OF_RANGE;
        }
        int was = textSigns[place];
        textSigns[place] = sign;
        return was;
    }

    public int get(int place) {
        return isPlace(place) ? textSigns[place] : OUT_OF_RANGE;
    }

    public int turn() {
        for (int low = 0; low < textCount / 2; low++) {
            int high = textCount - 1 - low;
            int sign = textSigns[low];
            textSigns[low] = textSigns[high];
            textSigns[high] = sign;
        }
        return textCount;
    }

    public int find(int place, boolean last) {
        return last ? findBackward(place) : findForward(place);
    }

    public int length(int n) {
        if (n < 0) {
            return OUT_OF_RANGE;
        }
        if (n > TEXT_LIMIT) {
            return TOO_LONG;
        }
        // What was cut before still stands behind the end, so it is wiped here.
        for (int place = textCount; place < n; place++) {
            textSigns[place] = 0;
        }
        textCount = n;
        return textCount;
    }

    public int lift(int from, int to) {
        if (from < 0 || to < from || to > textCount) {
            return OUT_OF_RANGE;
        }
        int size = to - from;
        if (size > SCRAP_LIMIT) {
            return TOO_LONG;
        }
        System.arraycopy(textSigns, from, scrapSigns, 0, size);
        scrapCount = size;
        return scrapCount;
    }

    public int look(int what) {
        switch (what) {
            case TEXT_COUNT:
                return textCount;
            case SCRAP_COUNT:
                return scrapCount;
            case TEXT_SUM:
                return sumOfText();
            default:
                return OUT_OF_RANGE;
        }
    }

    public int scrap(int k) {
        return k >= 0 && k < scrapCount ? scrapSigns[k] : OUT_OF_RANGE;
    }

    public int compare() {
        int shared = Math.min(textCount, scrapCount);
        for (int place = 0; place < shared; place++) {
            if (textSigns[place] != scrapSigns[place]) {
                return order(textSigns[place], scrapSigns[place]);
            }
        }
        return order(textCount, scrapCount);
    }

    private static int order(int one, int other) {
        if (one == other) {
            return 0;
        }
        return one < other ? -1 : 1;
    }

    // A long, because add is given the sign as one and a cast would hide what is out of range.
    private static boolean isSign(long number) {
        return number >= 0 && number < SIGN_LIMIT && (number < FIRST_HALF || number > LAST_HALF);
    }

    private boolean isPlace(int place) {
        return place >= 0 && place < textCount;
    }

    private boolean isPlaceOrEnd(int place) {
        return place >= 0 && place <= textCount;
    }

    private boolean hasRoom(int more) {
        return textCount + more <= TEXT_LIMIT;
    }

    /** The signs from place from to before to become size signs that the caller writes. */
    private void makeGap(int from, int to, int size) {
        System.arraycopy(textSigns, to, textSigns, from + size, textCount - to);
        textCount = textCount - (to - from) + size;
    }

    private int putScrap(int from, int to) {
        if (!hasRoom(scrapCount - (to - from))) {
            return TOO_LONG;
        }
        makeGap(from, to, scrapCount);
        System.arraycopy(scrapSigns, 0, textSigns, from, scrapCount);
        return textCount;
    }

    private int putSign(int place, int sign) {
        if (!hasRoom(1)) {
            return TOO_LONG;
        }
        makeGap(place, place, 1);
        textSigns[place] = sign;
        return textCount;
    }

    private int putWord(int place, String word) {
        int size = word.length();
        if (!hasRoom(size)) {
            return TOO_LONG;
        }
        makeGap(place, place, size);
        for (int k = 0; k < size; k++) {
            textSigns[place + k] = word.charAt(k);
        }
        return textCount;
    }

    private int putDigits(int place, long number) {
        int dash = number < 0 ? 1 : 0;
        int size = dash + countDigits(number);
        if (!hasRoom(size)) {
            return TOO_LONG;
        }
        makeGap(place, place, size);
        if (dash == 1) {
            textSigns[place] = '-';
        }
        long rest = number;
        for (int k = size - 1; k >= dash; k--) {
            // The digit loses its minus, not the number: the least long has no opposite.
            textSigns[place + k] = '0' + Math.abs((int) (rest % 10));
            rest = rest / 10;
        }
        return textCount;
    }

    private static int countDigits(long number) {
        int count = 1;
        long rest = number / 10;
        while (rest != 0 && count < MOST_DIGITS) {
            count++;
            rest = rest / 10;
        }
        return count;
    }

    private int findForward(int place) {
        int lastStart = textCount - scrapCount;
        int start = Math.min(Math.max(place, 0), textCount);
        for (int at = start; at <= lastStart; at++) {
            if (scrapStandsAt(at)) {
                return at;
            }
        }
        return NONE;
    }

    private int findBackward(int place) {
        int start = Math.min(place, textCount - scrapCount);
        for (int at = start; at >= 0; at--) {
            if (scrapStandsAt(at)) {
                return at;
            }
        }
        return NONE;
    }

    /** Asked only of places with as many signs behind them as the scrap has. */
    private boolean scrapStandsAt(int place) {
        for (int k = 0; k < scrapCount; k++) {
            if (textSigns[place + k] != scrapSigns[k]) {
                return false;
            }
        }
        return true;
    }

    private int sumOfText() {
        int sum = 0;
        for (int place = 0; place < textCount; place++) {
            sum += (place + 1) * textSigns[place];
        }
        return sum;
    }
}
