/** The boundary cases of the calls that search and measure: find, look, compare. */
public final class SearchBoundaryTest {
    private static final int LEAST = Trial.LEAST;
    private static final int MOST = Trial.MOST;
    private static final String FULL = Trial.FULL;
    private static final String FORTY = Trial.FORTY;

    public static void main(String[] args) {
        Cases.runAll(SearchBoundaryTest.class);
    }

    static void promise12_find_firstAtThePlaceItself() {
        finds("xabxab", "ab", 1, false, 1);
        finds("xabxab", "ab", 4, false, 4);
    }

    static void promise12_find_firstOnePlaceBehindWhereItStands() {
        finds("xabxab", "ab", 2, false, 4);
        finds("xabxab", "ab", 5, false, -1);
    }

    static void promise12_find_firstBelow0IsFrom0() {
        finds("abxab", "ab", -1, false, 0);
        finds("xabab", "ab", -1, false, 1);
        finds("abxab", "ab", LEAST, false, 0);
    }

    static void promise12_find_firstFromTheEnd() {
        finds("abxab", "ab", 5, false, -1);
        finds("abxab", "", 5, false, 5);
    }

    static void promise12_find_firstBeyondTheEndIsFromTheEnd() {
        finds("abxab", "ab", 6, false, -1);
        finds("abxab", "ab", MOST, false, -1);
        finds("abxab", "", 6, false, 5);
        finds("abxab", "", MOST, false, 5);
    }

    static void promise12_find_lastAtThePlaceItself() {
        finds("xabxab", "ab", 4, true, 4);
        finds("xabxab", "ab", 1, true, 1);
        finds("abxab", "ab", 0, true, 0);
    }

    static void promise12_find_lastOnePlaceBeforeWhereItStands() {
        finds("xabxab", "ab", 3, true, 1);
        finds("xabxab", "ab", 0, true, -1);
    }

    static void promise12_find_lastBelow0IsNone() {
        finds("abxab", "ab", -1, true, -1);
        finds("abxab", "ab", LEAST, true, -1);
    }

    static void promise12_find_lastFromTheEnd() {
        finds("abxab", "ab", 5, true, 3);
        finds("abxab", "", 5, true, 5);
    }

    static void promise12_find_lastBeyondTheEndIsFromTheEnd() {
        finds("abxab", "ab", 6, true, 3);
        finds("abxab", "ab", MOST, true, 3);
        finds("abxab", "", 6, true, 5);
        finds("abxab", "", MOST, true, 5);
    }

    static void promise12_find_anEmptyScrapStandsEverywhere() {
        for (int place = 0; place <= 3; place++) {
            finds("abc", "", place, false, place);
            finds("abc", "", place, true, place);
        }
        finds("abc", "", -1, false, 0);
        finds("abc", "", LEAST, false, 0);
    }

    static void promise12_find_lastOfAnEmptyScrapBelow0IsNone() {
        finds("abc", "", -1, true, -1);
        finds("abc", "", LEAST, true, -1);
    }

    static void promise12_find_anEmptyScrapInAnEmptyText() {
        for (int place : new int[] {0, 1, MOST}) {
            finds("", "", place, false, 0);
            finds("", "", place, true, 0);
        }
        finds("", "", -1, false, 0);
        finds("", "", -1, true, -1);
    }

    static void promise12_find_inAnEmptyText() {
        for (int place : new int[] {-1, 0, 1, MOST}) {
            finds("", "a", place, false, -1);
            finds("", "a", place, true, -1);
        }
    }

    static void promise12_find_theWholeText() {
        finds("abc", "abc", 0, false, 0);
        finds("abc", "abc", 1, false, -1);
        finds("abc", "abc", 0, true, 0);
        finds("abc", "abc", MOST, true, 0);
    }

    static void promise12_find_aScrapLongerThanTheText() {
        finds("abc", "abcd", 0, false, -1);
        finds("abc", "abcd", 3, true, -1);
        finds("a", FORTY, 0, false, -1);
        finds("a", FORTY, 1, true, -1);
    }

    static void promise12_find_whereScrapsOverlap() {
        finds("aaaa", "aa", 0, false, 0);
        finds("aaaa", "aa", 1, false, 1);
        finds("aaaa", "aa", 3, false, -1);
        finds("aaaa", "aa", 4, true, 2);
        finds("aaaa", "aa", 1, true, 1);
    }

    static void promise12_find_afterABeginningOfIt() {
        finds("aaab", "aab", 0, false, 1);
        finds("abab", "aba", 1, false, -1);
        finds("baaa", "baa", 3, true, 0);
    }

    static void promise12_find_noneThere() {
        finds("abcabc", "ac", 0, false, -1);
        finds("abcabc", "ac", 6, true, -1);
    }

    static void promise12_find_notOverTheEndInWhatWasCut() {
        Trial.given("xxab", "ab").call("cut", 3, 4).call("find", 0, false).answers(-1);
        Trial.given("xxab", "ab").call("cut", 3, 4).call("find", 4, true).answers(-1);
        Trial.given("xxa", "a\0").call("find", 0, false).answers(-1);
        Trial.given("xxa", "a\0").call("find", 3, true).answers(-1);
    }

    static void promise12_find_inAFullText() {
        finds(FULL, FORTY, 1, false, 40);
        finds(FULL, FORTY, 2960, false, 2960);
        finds(FULL, FORTY, 2961, false, -1);
        finds(FULL, FORTY, 3000, true, 2960);
        finds(FULL, FORTY, 2959, true, 2920);
        finds(FULL, "", 3001, false, 3000);
        finds(FULL, "", 3001, true, 3000);
    }

    static void promise12_find_smallestAndLargestSign() {
        finds("a\0\uffff", "\0", 0, false, 1);
        finds("a\0\uffff", "\uffff", 3, true, 2);
    }

    static void promise15_look_atEmptyOnes() {
        Trial.given("", "").call("look", 0).answers(0);
        Trial.given("", "").call("look", 1).answers(0);
        Trial.given("", "").call("look", 2).answers(0);
    }

    static void promise15_look_atFullOnes() {
        Trial.given(FULL, FORTY).call("look", 0).answers(3000).leaves(FULL, FORTY);
        Trial.given(FULL, FORTY).call("look", 1).answers(40).leaves(FULL, FORTY);
    }

    static void promise15_look_whatTooSmall() {
        Trial.given("abc", "xy").call("look", -1).isRefused(-1);
        Trial.given("abc", "xy").call("look", LEAST).isRefused(-1);
    }

    static void promise15_look_whatTooLarge() {
        Trial.given("abc", "xy").call("look", 3).isRefused(-1);
        Trial.given("abc", "xy").call("look", MOST).isRefused(-1);
    }

    static void promise15_look_placesOfTheSumAreFrom1() {
        Trial.given("a", "xy").call("look", 2).answers('a').leaves("a", "xy");
        Trial.given("ab", "xy").call("look", 2).answers('a' + 2 * 'b').leaves("ab", "xy");
    }

    static void promise15_look_theSumOfSigns0() {
        Trial.given("\0\0\0", "xy").call("look", 2).answers(0);
    }

    static void promise15_look_theSumUpToTheLargestNumber() {
        Trial.given(textWithTheLargestSum(), "").call("look", 2).answers(MOST)
                .leaves(textWithTheLargestSum(), "");
    }

    static void promise15_look_theSumWrapsAboveTheLargestNumber() {
        String oneMore = (char) (textWithTheLargestSum().charAt(0) + 1) + textWithTheLargestSum().substring(1);
        Trial.given(oneMore, "").call("look", 2).answers(LEAST).leaves(oneMore, "");
    }

    static void promise15_look_theSumOfTheLargestText() {
        Trial.given("\uffff".repeat(3000), "xy").call("look", 2).answers((int) (4501500L * 65535));
    }

    static void promise15_look_theSumLeavesOutWhatWasCut() {
        Trial.given("abc", "xy").call("length", 1).call("look", 2).answers('a');
    }

    static void promise17_compare_bothEmpty() {
        compares("", "", 0);
    }

    static void promise17_compare_anEmptyTextIsBefore() {
        compares("", "a", -1);
        compares("", "\0", -1);
    }

    static void promise17_compare_anEmptyScrapIsBefore() {
        compares("a", "", 1);
        compares("\0", "", 1);
    }

    static void promise17_compare_alike() {
        compares("abc", "abc", 0);
        compares(FORTY, FORTY, 0);
    }

    static void promise17_compare_aBeginningIsBeforeWhatIsLonger() {
        compares("ab", "abc", -1);
        compares("abc", "ab", 1);
        compares("ab", "ab\0", -1);
        compares("ab\0", "ab", 1);
    }

    static void promise17_compare_theFirstOtherSignTells() {
        compares("abd", "abc", 1);
        compares("abc", "abd", -1);
        compares("bac", "abc", 1);
        compares("b", "abc", 1);
        compares("abc", "b", -1);
    }

    static void promise17_compare_answersOnlyMinus1Or1() {
        compares("\uffff", "\0", 1);
        compares("\0", "\uffff", -1);
        compares(FULL, "", 1);
        compares("", FORTY, -1);
    }

    static void promise17_compare_signsAboveTheHalfAreLarger() {
        compares("\u8000", "\u7fff", 1);
        compares("\u7fff", "\u8000", -1);
        compares("\u0080", "\u007f", 1);
    }

    static void promise17_compare_aFullText() {
        compares(FULL, FORTY, 1);
        compares(FULL, FORTY.substring(0, 39) + "O", -1);
        compares(FULL, FORTY.substring(0, 39) + "M", 1);
    }

    static void promise17_compare_notWhatWasCutOrDropped() {
        Trial.given("abz", "ab").call("cut", 2, 3).call("compare").answers(0);
        Trial.given("a", "ab").call("drop").call("note", 'a').call("compare").answers(0);
        Trial.given("abz", "aby").call("cut", 2, 3).call("lift", 0, 2).call("compare").answers(0);
    }

    /** 65406 + (2 + 3 + .. + 255) * 65535 + 256 * 32896 is the largest int. */
    private static String textWithTheLargestSum() {
        return (char) 65406 + "\uffff".repeat(254) + (char) 32896;
    }

    private static void finds(String text, String scrap, int place, boolean last, int due) {
        Trial.given(text, scrap).call("find", place, last).answers(due).leaves(text, scrap);
    }

    private static void compares(String text, String scrap, int due) {
        Trial.given(text, scrap).call("compare").answers(due).leaves(text, scrap);
    }
}
