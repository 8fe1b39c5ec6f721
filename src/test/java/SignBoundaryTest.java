/** The boundary cases of the calls about single signs and the whole text: take, set, get, turn, length. */
public final class SignBoundaryTest {
    private static final int LEAST = Trial.LEAST;
    private static final int MOST = Trial.MOST;
    private static final String FULL = Trial.FULL;

    public static void main(String[] args) {
        Cases.runAll(SignBoundaryTest.class);
    }

    static void promise08_take_theFirstSign() {
        Trial.given("abc", "xy").call("take", 0).answers('a').leaves("bc", "xy");
    }

    static void promise08_take_theLastSign() {
        Trial.given("abc", "xy").call("take", 2).answers('c').leaves("ab", "xy");
    }

    static void promise08_take_theOnlySign() {
        Trial.given("a", "xy").call("take", 0).answers('a').leaves("", "xy");
    }

    static void promise08_take_atTheEnd() {
        Trial.given("abc", "xy").call("take", 3).isRefused(-1);
    }

    static void promise08_take_beyondTheEnd() {
        Trial.given("abc", "xy").call("take", 4).isRefused(-1);
        Trial.given("abc", "xy").call("take", MOST).isRefused(-1);
    }

    static void promise08_take_below0() {
        Trial.given("abc", "xy").call("take", -1).isRefused(-1);
        Trial.given("abc", "xy").call("take", LEAST).isRefused(-1);
    }

    static void promise08_take_ofAnEmptyText() {
        Trial.given("", "xy").call("take", 0).isRefused(-1);
    }

    static void promise08_take_ofAFullText() {
        Trial.given(FULL, "xy").call("take", 0).answers('a').leaves(FULL.substring(1), "xy");
        Trial.given(FULL, "xy").call("take", 2999).answers('N').leaves(Trial.textOf(2999), "xy");
        Trial.given(FULL, "xy").call("take", 3000).isRefused(-1);
    }

    static void promise08_take_smallestAndLargestSign() {
        Trial.given("a\0b", "xy").call("take", 1).answers(0).leaves("ab", "xy");
        Trial.given("a\uffffb", "xy").call("take", 1).answers(65535).leaves("ab", "xy");
    }

    static void promise09_set_firstAndLastSign() {
        Trial.given("abc", "xy").call("set", 0, 'q').answers('a').leaves("qbc", "xy");
        Trial.given("abc", "xy").call("set", 2, 'q').answers('c').leaves("abq", "xy");
    }

    static void promise09_set_atTheEnd() {
        Trial.given("abc", "xy").call("set", 3, 'q').isRefused(-1);
    }

    static void promise09_set_beyondTheEnd() {
        Trial.given("abc", "xy").call("set", 4, 'q').isRefused(-1);
        Trial.given("abc", "xy").call("set", MOST, 'q').isRefused(-1);
    }

    static void promise09_set_below0() {
        Trial.given("abc", "xy").call("set", -1, 'q').isRefused(-1);
        Trial.given("abc", "xy").call("set", LEAST, 'q').isRefused(-1);
    }

    static void promise09_set_ofAnEmptyText() {
        Trial.given("", "xy").call("set", 0, 'q').isRefused(-1);
    }

    static void promise09_set_ofAFullText() {
        Trial.given(FULL, "xy").call("set", 2999, 'q').answers('N').leaves(Trial.textOf(2999) + "q", "xy");
        Trial.given(FULL, "xy").call("set", 3000, 'q').isRefused(-1);
    }

    static void promise09_set_smallestAndLargestSign() {
        Trial.given("abc", "xy").call("set", 1, 0).answers('b').leaves("a\0c", "xy");
        Trial.given("a\0c", "xy").call("set", 1, 65535).answers(0).leaves("a\uffffc", "xy");
        Trial.given("a\uffffc", "xy").call("set", 1, 'b').answers(65535).leaves("abc", "xy");
    }

    static void promise09_set_signTooSmall() {
        Trial.given("abc", "xy").call("set", 1, -1).isRefused(-1);
        Trial.given("abc", "xy").call("set", 1, LEAST).isRefused(-1);
    }

    static void promise09_set_signTooLarge() {
        Trial.given("abc", "xy").call("set", 1, 65536).isRefused(-1);
        Trial.given("abc", "xy").call("set", 1, 65536 + 'q').isRefused(-1);
        Trial.given("abc", "xy").call("set", 1, MOST).isRefused(-1);
    }

    static void promise09_set_halfOfAPairIsNoSign() {
        Trial.given("abc", "xy").call("set", 1, 55296).isRefused(-1);
        Trial.given("abc", "xy").call("set", 1, 56320).isRefused(-1);
        Trial.given("abc", "xy").call("set", 1, 57343).isRefused(-1);
    }

    static void promise09_set_signsBesideTheHalves() {
        Trial.given("abc", "xy").call("set", 1, 55295).answers('b').leaves("a" + (char) 55295 + "c", "xy");
        Trial.given("abc", "xy").call("set", 1, 57344).answers('b').leaves("a" + (char) 57344 + "c", "xy");
    }

    static void promise09_set_toTheSameSign() {
        Trial.given("abc", "xy").call("set", 1, 'b').answers('b').leaves("abc", "xy");
    }

    static void promise10_get_firstAndLastSign() {
        Trial.given("abc", "xy").call("get", 0).answers('a').leaves("abc", "xy");
        Trial.given("abc", "xy").call("get", 2).answers('c').leaves("abc", "xy");
    }

    static void promise10_get_atTheEnd() {
        Trial.given("abc", "xy").call("get", 3).isRefused(-1);
    }

    static void promise10_get_beyondTheEnd() {
        Trial.given("abc", "xy").call("get", 4).isRefused(-1);
        Trial.given("abc", "xy").call("get", MOST).isRefused(-1);
    }

    static void promise10_get_below0() {
        Trial.given("abc", "xy").call("get", -1).isRefused(-1);
        Trial.given("abc", "xy").call("get", LEAST).isRefused(-1);
    }

    static void promise10_get_ofAnEmptyText() {
        Trial.given("", "xy").call("get", 0).isRefused(-1);
    }

    static void promise10_get_ofAFullText() {
        Trial.given(FULL, "xy").call("get", 2999).answers('N').leaves(FULL, "xy");
        Trial.given(FULL, "xy").call("get", 3000).isRefused(-1);
    }

    static void promise10_get_smallestAndLargestSign() {
        Trial.given("\0", "").call("get", 0).answers(0);
        Trial.given("\uffff", "").call("get", 0).answers(65535);
    }

    static void promise10_get_ofWhatWasCut() {
        Trial.given("abc", "").call("cut", 1, 3).call("get", 1).answers(-1);
        Trial.given("abc", "").call("length", 1).call("get", 1).answers(-1);
        Trial.given("abc", "").call("take", 2).call("get", 2).answers(-1);
    }

    static void promise11_turn_ofAnEmptyText() {
        Trial.given("", "xy").call("turn").answers(0).leaves("", "xy");
    }

    static void promise11_turn_ofOneSign() {
        Trial.given("a", "xy").call("turn").answers(1).leaves("a", "xy");
    }

    static void promise11_turn_ofTwoSigns() {
        Trial.given("ab", "xy").call("turn").answers(2).leaves("ba", "xy");
    }

    static void promise11_turn_ofAnOddAndAnEvenCount() {
        Trial.given("abcde", "xy").call("turn").answers(5).leaves("edcba", "xy");
        Trial.given("abcdef", "xy").call("turn").answers(6).leaves("fedcba", "xy");
    }

    static void promise11_turn_ofAFullText() {
        Trial.given(FULL, "xy").call("turn").answers(3000)
                .leaves(new StringBuilder(FULL).reverse().toString(), "xy");
    }

    static void promise11_turn_twice() {
        Trial.given("abcde", "xy").call("turn").call("turn").answers(5).leaves("abcde", "xy");
    }

    static void promise11_turn_leavesOutWhatWasCut() {
        Trial.given("abcde", "xy").call("length", 3).call("turn").answers(3).leaves("cba", "xy");
    }

    static void promise13_length_0() {
        Trial.given("abc", "xy").call("length", 0).answers(0).leaves("", "xy");
        Trial.given("", "xy").call("length", 0).answers(0).leaves("", "xy");
    }

    static void promise13_length_oneLess() {
        Trial.given("abc", "xy").call("length", 2).answers(2).leaves("ab", "xy");
    }

    static void promise13_length_theSame() {
        Trial.given("abc", "xy").call("length", 3).answers(3).leaves("abc", "xy");
    }

    static void promise13_length_oneMoreIsASign0Behind() {
        Trial.given("abc", "xy").call("length", 4).answers(4).leaves("abc\0", "xy");
        Trial.given("", "xy").call("length", 1).answers(1).leaves("\0", "xy");
    }

    static void promise13_length_signs0ComeWhereOthersWereCut() {
        Trial.given("abcdef", "xy").call("length", 2).call("length", 5).answers(5).leaves("ab\0\0\0", "xy");
        Trial.given("abcdef", "xy").call("cut", 2, 6).call("length", 5).answers(5).leaves("ab\0\0\0", "xy");
        Trial.given("abcdef", "xy").call("cut", 0, 4).call("length", 5).answers(5).leaves("ef\0\0\0", "xy");
        Trial.given("abcdef", "x").call("swap", 0, 4).call("length", 5).answers(5).leaves("xef\0\0", "x");
        Trial.given("abc", "xy").call("take", 0).call("length", 3).answers(3).leaves("bc\0", "xy");
    }

    static void promise13_length_3000() {
        Trial.given("abc", "xy").call("length", 3000).answers(3000)
                .leaves("abc" + "\0".repeat(2997), "xy");
        Trial.given(FULL, "xy").call("length", 0).call("length", 3000).answers(3000)
                .leaves("\0".repeat(3000), "xy");
    }

    static void promise13_length_3001IsTooLong() {
        Trial.given("abc", "xy").call("length", 3001).isRefused(-3);
        Trial.given(FULL, "xy").call("length", 3001).isRefused(-3);
    }

    static void promise13_length_farTooLong() {
        Trial.given("abc", "xy").call("length", MOST).isRefused(-3);
        Trial.given(FULL, "xy").call("length", MOST).isRefused(-3);
    }

    static void promise13_length_below0() {
        Trial.given("abc", "xy").call("length", -1).isRefused(-1);
        Trial.given("abc", "xy").call("length", LEAST).isRefused(-1);
        Trial.given(FULL, "xy").call("length", -1).isRefused(-1);
        Trial.given("", "xy").call("length", -1).isRefused(-1);
    }
}
