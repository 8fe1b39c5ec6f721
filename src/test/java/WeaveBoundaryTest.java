/** The boundary cases of the calls that write runs of signs or cut them: add, insert, cut, swap. */
public final class WeaveBoundaryTest {
    private static final int LEAST = Trial.LEAST;
    private static final int MOST = Trial.MOST;
    private static final String FULL = Trial.FULL;
    private static final String FORTY = Trial.FORTY;

    public static void main(String[] args) {
        Cases.runAll(WeaveBoundaryTest.class);
    }

    static void promise04_add_whatTooSmall() {
        Trial.given("abc", "xy").call("add", -1, 65).isRefused(-1);
        Trial.given("abc", "xy").call("add", LEAST, 65).isRefused(-1);
    }

    static void promise04_add_whatTooLarge() {
        Trial.given("abc", "xy").call("add", 4, 65).isRefused(-1);
        Trial.given("abc", "xy").call("add", MOST, 65).isRefused(-1);
    }

    static void promise04_add_whatOutOfRangeToAFullText() {
        Trial.given(FULL, "xy").call("add", -1, 65).isRefused(-1);
        Trial.given(FULL, "xy").call("add", 4, 65).isRefused(-1);
    }

    static void promise04_add_digitsOf0AreOneSign() {
        Trial.given("abc", "xy").call("add", 0, 0).answers(4).leaves("abc0", "xy");
    }

    static void promise04_add_digitsToAnEmptyText() {
        Trial.given("", "").call("add", 0, 7).answers(1).leaves("7", "");
    }

    static void promise04_add_digitsOfANegativeNumberHaveADashBefore() {
        Trial.given("abc", "xy").call("add", 0, -1).answers(5).leaves("abc-1", "xy");
        Trial.given("abc", "xy").call("add", 0, -10).answers(6).leaves("abc-10", "xy");
    }

    static void promise04_add_digitsWhereTheirCountGrows() {
        long power = 1;
        for (int digits = 1; digits <= 19; digits++) {
            addsDigits(power);
            addsDigits(-power);
            addsDigits(power - 1);
            addsDigits(1 - power);
            power *= 10;
        }
    }

    static void promise04_add_digitsBeyond32Bits() {
        addsDigits(2147483648L);
        addsDigits(-2147483649L);
        addsDigits(4294967296L);
    }

    static void promise04_add_digitsOfTheLargestNumber() {
        Trial.given("abc", "xy").call("add", 0, Long.MAX_VALUE).answers(22)
                .leaves("abc9223372036854775807", "xy");
    }

    static void promise04_add_digitsOfTheLeastNumber() {
        Trial.given("abc", "xy").call("add", 0, Long.MIN_VALUE).answers(23)
                .leaves("abc-9223372036854775808", "xy");
    }

    static void promise04_add_digitsThatJustFit() {
        Trial.given(Trial.textOf(2998), "").call("add", 0, -7).answers(3000)
                .leaves(Trial.textOf(2998) + "-7", "");
        Trial.given(Trial.textOf(2980), "").call("add", 0, Long.MIN_VALUE).answers(3000)
                .leaves(Trial.textOf(2980) + Long.MIN_VALUE, "");
    }

    static void promise04_add_digitsOneTooMany() {
        Trial.given(FULL, "xy").call("add", 0, 0).isRefused(-3);
        Trial.given(Trial.textOf(2999), "xy").call("add", 0, -7).isRefused(-3);
        Trial.given(Trial.textOf(2981), "xy").call("add", 0, Long.MIN_VALUE).isRefused(-3);
    }

    static void promise04_add_falseFor0() {
        Trial.given("abc", "xy").call("add", 1, 0).answers(8).leaves("abcfalse", "xy");
    }

    static void promise04_add_trueForAllButZero() {
        for (long number : new long[] {1, -1, 2, 4294967296L, Long.MAX_VALUE, Long.MIN_VALUE}) {
            Trial.given("abc", "xy").call("add", 1, number).answers(7).leaves("abctrue", "xy");
        }
    }

    static void promise04_add_wordThatJustFits() {
        Trial.given(Trial.textOf(2996), "").call("add", 1, 5).answers(3000)
                .leaves(Trial.textOf(2996) + "true", "");
        Trial.given(Trial.textOf(2995), "").call("add", 1, 0).answers(3000)
                .leaves(Trial.textOf(2995) + "false", "");
    }

    static void promise04_add_wordOneTooLong() {
        Trial.given(Trial.textOf(2997), "xy").call("add", 1, 5).isRefused(-3);
        Trial.given(Trial.textOf(2996), "xy").call("add", 1, 0).isRefused(-3);
        Trial.given(FULL, "xy").call("add", 1, 0).isRefused(-3);
    }

    static void promise04_add_anEmptyScrap() {
        Trial.given("abc", "").call("add", 2, 0).answers(3).leaves("abc", "");
        Trial.given(FULL, "").call("add", 2, 0).answers(3000).leaves(FULL, "");
    }

    static void promise04_add_aFullScrap() {
        Trial.given("abc", FORTY).call("add", 2, 0).answers(43).leaves("abc" + FORTY, FORTY);
    }

    static void promise04_add_scrapWhateverTheNumber() {
        Trial.given("abc", "xy").call("add", 2, -1).answers(5).leaves("abcxy", "xy");
        Trial.given("abc", "xy").call("add", 2, Long.MIN_VALUE).answers(5).leaves("abcxy", "xy");
        Trial.given("abc", "xy").call("add", 2, Long.MAX_VALUE).answers(5).leaves("abcxy", "xy");
    }

    static void promise04_add_scrapThatJustFits() {
        Trial.given(Trial.textOf(2960), FORTY).call("add", 2, 0).answers(3000).leaves(FULL, FORTY);
    }

    static void promise04_add_scrapOneTooLong() {
        Trial.given(Trial.textOf(2961), FORTY).call("add", 2, 0).isRefused(-3);
        Trial.given(FULL, "x").call("add", 2, 0).isRefused(-3);
    }

    static void promise04_add_smallestAndLargestSign() {
        Trial.given("abc", "xy").call("add", 3, 0).answers(4).leaves("abc\0", "xy");
        Trial.given("abc", "xy").call("add", 3, 65535).answers(4).leaves("abc\uffff", "xy");
    }

    static void promise04_add_signTooSmall() {
        Trial.given("abc", "xy").call("add", 3, -1).isRefused(-1);
        Trial.given("abc", "xy").call("add", 3, Long.MIN_VALUE).isRefused(-1);
    }

    static void promise04_add_signTooLarge() {
        Trial.given("abc", "xy").call("add", 3, 65536).isRefused(-1);
        Trial.given("abc", "xy").call("add", 3, Long.MAX_VALUE).isRefused(-1);
    }

    static void promise04_add_signWhoseLower32BitsWouldBeOne() {
        Trial.given("abc", "xy").call("add", 3, 4294967296L).isRefused(-1);
        Trial.given("abc", "xy").call("add", 3, 4294967296L + 'z').isRefused(-1);
        Trial.given("abc", "xy").call("add", 3, -4294967296L + 'z').isRefused(-1);
    }

    static void promise04_add_halfOfAPairIsNoSign() {
        Trial.given("abc", "xy").call("add", 3, 55296).isRefused(-1);
        Trial.given("abc", "xy").call("add", 3, 56319).isRefused(-1);
        Trial.given("abc", "xy").call("add", 3, 57343).isRefused(-1);
    }

    static void promise04_add_signsBesideTheHalves() {
        Trial.given("abc", "xy").call("add", 3, 55295).answers(4).leaves("abc" + (char) 55295, "xy");
        Trial.given("abc", "xy").call("add", 3, 57344).answers(4).leaves("abc" + (char) 57344, "xy");
    }

    static void promise04_add_theLastSignThatFits() {
        Trial.given(Trial.textOf(2999), "").call("add", 3, 'x').answers(3000)
                .leaves(Trial.textOf(2999) + "x", "");
    }

    static void promise04_add_signToAFullText() {
        Trial.given(FULL, "xy").call("add", 3, 'x').isRefused(-3);
    }

    static void promise04_add_noSignToAFullTextIsOutOfRange() {
        Trial.given(FULL, "xy").call("add", 3, -1).isRefused(-1);
        Trial.given(FULL, "xy").call("add", 3, 57343).isRefused(-1);
        Trial.given(FULL, "xy").call("add", 3, 65536).isRefused(-1);
    }

    static void promise05_insert_atTheFirstPlace() {
        Trial.given("abc", "xy").call("insert", 0, false, 7).answers(5).leaves("xyabc", "xy");
        Trial.given("abc", "xy").call("insert", 0, true, -7).answers(5).leaves("-7abc", "xy");
    }

    static void promise05_insert_beforeTheLastSign() {
        Trial.given("abc", "xy").call("insert", 2, false, 7).answers(5).leaves("abxyc", "xy");
        Trial.given("abc", "xy").call("insert", 2, true, -7).answers(5).leaves("ab-7c", "xy");
    }

    static void promise05_insert_atTheEnd() {
        Trial.given("abc", "xy").call("insert", 3, false, 7).answers(5).leaves("abcxy", "xy");
        Trial.given("abc", "xy").call("insert", 3, true, -7).answers(5).leaves("abc-7", "xy");
    }

    static void promise05_insert_beyondTheEnd() {
        Trial.given("abc", "xy").call("insert", 4, false, 7).isRefused(-1);
        Trial.given("abc", "xy").call("insert", 4, true, 7).isRefused(-1);
        Trial.given("abc", "xy").call("insert", MOST, false, 7).isRefused(-1);
        Trial.given("abc", "xy").call("insert", MOST, true, 7).isRefused(-1);
    }

    static void promise05_insert_below0() {
        Trial.given("abc", "xy").call("insert", -1, false, 7).isRefused(-1);
        Trial.given("abc", "xy").call("insert", -1, true, 7).isRefused(-1);
        Trial.given("abc", "xy").call("insert", LEAST, false, 7).isRefused(-1);
        Trial.given("abc", "xy").call("insert", LEAST, true, 7).isRefused(-1);
    }

    static void promise05_insert_intoAnEmptyText() {
        Trial.given("", "xy").call("insert", 0, false, 7).answers(2).leaves("xy", "xy");
        Trial.given("", "xy").call("insert", 0, true, 7).answers(1).leaves("7", "xy");
        Trial.given("", "xy").call("insert", 1, false, 7).isRefused(-1);
    }

    static void promise05_insert_anEmptyScrap() {
        Trial.given("abc", "").call("insert", 1, false, 7).answers(3).leaves("abc", "");
        Trial.given(FULL, "").call("insert", 0, false, 7).answers(3000).leaves(FULL, "");
        Trial.given(FULL, "").call("insert", 3000, false, 7).answers(3000).leaves(FULL, "");
    }

    static void promise05_insert_anEmptyScrapAtAWrongPlace() {
        Trial.given("abc", "").call("insert", 4, false, 7).isRefused(-1);
        Trial.given("abc", "").call("insert", -1, false, 7).isRefused(-1);
    }

    static void promise05_insert_digitsOf0AreOneSign() {
        Trial.given("abc", "xy").call("insert", 1, true, 0).answers(4).leaves("a0bc", "xy");
    }

    static void promise05_insert_digitsOfTheLargestAndTheLeastNumber() {
        Trial.given("abc", "xy").call("insert", 1, true, Long.MAX_VALUE).answers(22)
                .leaves("a9223372036854775807bc", "xy");
        Trial.given("abc", "xy").call("insert", 1, true, Long.MIN_VALUE).answers(23)
                .leaves("a-9223372036854775808bc", "xy");
    }

    static void promise05_insert_scrapWhateverTheNumber() {
        Trial.given("abc", "xy").call("insert", 1, false, Long.MIN_VALUE).answers(5).leaves("axybc", "xy");
        Trial.given("abc", "xy").call("insert", 1, false, 0).answers(5).leaves("axybc", "xy");
    }

    static void promise05_insert_whatJustFits() {
        Trial.given(Trial.textOf(2960), FORTY).call("insert", 1, false, 0).answers(3000)
                .leaves("a" + FORTY + Trial.textOf(2960).substring(1), FORTY);
        Trial.given(Trial.textOf(2998), "").call("insert", 2997, true, -7).answers(3000)
                .leaves(Trial.textOf(2997) + "-7" + FULL.charAt(2997), "");
    }

    static void promise05_insert_scrapOneTooLong() {
        Trial.given(Trial.textOf(2961), FORTY).call("insert", 1, false, 0).isRefused(-3);
        Trial.given(FULL, "x").call("insert", 0, false, 0).isRefused(-3);
        Trial.given(FULL, "x").call("insert", 3000, false, 0).isRefused(-3);
    }

    static void promise05_insert_digitsOneTooMany() {
        Trial.given(Trial.textOf(2999), "xy").call("insert", 1, true, -7).isRefused(-3);
        Trial.given(FULL, "xy").call("insert", 0, true, 0).isRefused(-3);
        Trial.given(FULL, "xy").call("insert", 3000, true, 0).isRefused(-3);
    }

    static void promise05_insert_wrongPlaceOfAFullTextIsOutOfRange() {
        Trial.given(FULL, "xy").call("insert", 3001, false, 0).isRefused(-1);
        Trial.given(FULL, "xy").call("insert", -1, false, 0).isRefused(-1);
        Trial.given(FULL, "xy").call("insert", 3001, true, 0).isRefused(-1);
        Trial.given(FULL, "xy").call("insert", -1, true, 0).isRefused(-1);
    }

    static void promise06_cut_fromTheFirstPlace() {
        Trial.given("abcdef", "xy").call("cut", 0, 2).answers(4).leaves("cdef", "xy");
    }

    static void promise06_cut_theLastSign() {
        Trial.given("abcdef", "xy").call("cut", 5, 6).answers(5).leaves("abcde", "xy");
    }

    static void promise06_cut_fromTheEndNothingGoes() {
        Trial.given("abcdef", "xy").call("cut", 6, 6).answers(6).leaves("abcdef", "xy");
        Trial.given("abcdef", "xy").call("cut", 6, 7).answers(6).leaves("abcdef", "xy");
        Trial.given("abcdef", "xy").call("cut", 6, MOST).answers(6).leaves("abcdef", "xy");
    }

    static void promise06_cut_fromBeyondTheEnd() {
        Trial.given("abcdef", "xy").call("cut", 7, 7).isRefused(-1);
        Trial.given("abcdef", "xy").call("cut", 7, 9).isRefused(-1);
        Trial.given("abcdef", "xy").call("cut", MOST, MOST).isRefused(-1);
    }

    static void promise06_cut_fromBelow0() {
        Trial.given("abcdef", "xy").call("cut", -1, 2).isRefused(-1);
        Trial.given("abcdef", "xy").call("cut", -1, -1).isRefused(-1);
        Trial.given("abcdef", "xy").call("cut", LEAST, MOST).isRefused(-1);
    }

    static void promise06_cut_toAsMuchAsFromNothingGoes() {
        Trial.given("abcdef", "xy").call("cut", 0, 0).answers(6).leaves("abcdef", "xy");
        Trial.given("abcdef", "xy").call("cut", 3, 3).answers(6).leaves("abcdef", "xy");
    }

    static void promise06_cut_toLessThanFrom() {
        Trial.given("abcdef", "xy").call("cut", 3, 2).isRefused(-1);
        Trial.given("abcdef", "xy").call("cut", 6, 5).isRefused(-1);
        Trial.given("abcdef", "xy").call("cut", 0, -1).isRefused(-1);
        Trial.given("abcdef", "xy").call("cut", 6, LEAST).isRefused(-1);
    }

    static void promise06_cut_toTheEnd() {
        Trial.given("abcdef", "xy").call("cut", 4, 6).answers(4).leaves("abcd", "xy");
    }

    static void promise06_cut_toBeyondTheEndIsTheEnd() {
        Trial.given("abcdef", "xy").call("cut", 4, 7).answers(4).leaves("abcd", "xy");
        Trial.given("abcdef", "xy").call("cut", 4, MOST).answers(4).leaves("abcd", "xy");
    }

    static void promise06_cut_everything() {
        Trial.given("abcdef", "xy").call("cut", 0, 6).answers(0).leaves("", "xy");
        Trial.given("abcdef", "xy").call("cut", 0, MOST).answers(0).leaves("", "xy");
    }

    static void promise06_cut_ofAnEmptyText() {
        Trial.given("", "xy").call("cut", 0, 0).answers(0).leaves("", "xy");
        Trial.given("", "xy").call("cut", 0, 1).answers(0).leaves("", "xy");
        Trial.given("", "xy").call("cut", 1, 1).isRefused(-1);
    }

    static void promise06_cut_ofAFullText() {
        Trial.given(FULL, "xy").call("cut", 2999, 3000).answers(2999).leaves(Trial.textOf(2999), "xy");
        Trial.given(FULL, "xy").call("cut", 0, 1).answers(2999).leaves(FULL.substring(1), "xy");
        Trial.given(FULL, "xy").call("cut", 0, 3000).answers(0).leaves("", "xy");
        Trial.given(FULL, "xy").call("cut", 3001, 3001).isRefused(-1);
    }

    static void promise07_swap_fromTheFirstPlace() {
        Trial.given("abcdef", "xy").call("swap", 0, 1).answers(7).leaves("xybcdef", "xy");
    }

    static void promise07_swap_fromTheEndTheScrapComes() {
        Trial.given("abcdef", "xy").call("swap", 6, 6).answers(8).leaves("abcdefxy", "xy");
        Trial.given("abcdef", "xy").call("swap", 6, MOST).answers(8).leaves("abcdefxy", "xy");
    }

    static void promise07_swap_fromBeyondTheEnd() {
        Trial.given("abcdef", "xy").call("swap", 7, 7).isRefused(-1);
        Trial.given("abcdef", "xy").call("swap", 7, 9).isRefused(-1);
        Trial.given("abcdef", "xy").call("swap", MOST, MOST).isRefused(-1);
    }

    static void promise07_swap_fromBelow0() {
        Trial.given("abcdef", "xy").call("swap", -1, 2).isRefused(-1);
        Trial.given("abcdef", "xy").call("swap", -1, -1).isRefused(-1);
        Trial.given("abcdef", "xy").call("swap", LEAST, MOST).isRefused(-1);
    }

    static void promise07_swap_toAsMuchAsFromTheScrapComes() {
        Trial.given("abcdef", "xy").call("swap", 0, 0).answers(8).leaves("xyabcdef", "xy");
        Trial.given("abcdef", "xy").call("swap", 3, 3).answers(8).leaves("abcxydef", "xy");
    }

    static void promise07_swap_toLessThanFrom() {
        Trial.given("abcdef", "xy").call("swap", 3, 2).isRefused(-1);
        Trial.given("abcdef", "xy").call("swap", 6, 5).isRefused(-1);
        Trial.given("abcdef", "xy").call("swap", 0, -1).isRefused(-1);
        Trial.given("abcdef", "xy").call("swap", 6, LEAST).isRefused(-1);
    }

    static void promise07_swap_toBeyondTheEndIsTheEnd() {
        Trial.given("abcdef", "xy").call("swap", 4, 7).answers(6).leaves("abcdxy", "xy");
        Trial.given("abcdef", "xy").call("swap", 1, MOST).answers(3).leaves("axy", "xy");
    }

    static void promise07_swap_everything() {
        Trial.given("abcdef", "xy").call("swap", 0, 6).answers(2).leaves("xy", "xy");
    }

    static void promise07_swap_ofAnEmptyText() {
        Trial.given("", "xy").call("swap", 0, 0).answers(2).leaves("xy", "xy");
        Trial.given("", "xy").call("swap", 0, 5).answers(2).leaves("xy", "xy");
        Trial.given("", "xy").call("swap", 1, 1).isRefused(-1);
    }

    static void promise07_swap_forAnEmptyScrap() {
        Trial.given("abcdef", "").call("swap", 1, 3).answers(4).leaves("adef", "");
        Trial.given("abcdef", "").call("swap", 3, 3).answers(6).leaves("abcdef", "");
        Trial.given(FULL, "").call("swap", 3000, 3000).answers(3000).leaves(FULL, "");
    }

    static void promise07_swap_fewerAsManyAndMoreSignsThanTheScrapHas() {
        Trial.given("abcdef", "xyz").call("swap", 1, 3).answers(7).leaves("axyzdef", "xyz");
        Trial.given("abcdef", "xyz").call("swap", 1, 4).answers(6).leaves("axyzef", "xyz");
        Trial.given("abcdef", "xyz").call("swap", 1, 5).answers(5).leaves("axyzf", "xyz");
    }

    static void promise07_swap_asManySignsOfAFullText() {
        Trial.given(FULL, "xyz").call("swap", 0, 3).answers(3000).leaves("xyz" + FULL.substring(3), "xyz");
        Trial.given(FULL, FORTY).call("swap", 2960, MOST).answers(3000).leaves(FULL, FORTY);
    }

    static void promise07_swap_justFits() {
        Trial.given(Trial.textOf(2999), "xyz").call("swap", 5, 7).answers(3000)
                .leaves(FULL.substring(0, 5) + "xyz" + FULL.substring(7, 2999), "xyz");
    }

    static void promise07_swap_oneTooLong() {
        Trial.given(FULL, "xyz").call("swap", 0, 2).isRefused(-3);
        Trial.given(FULL, "x").call("swap", 3000, 3000).isRefused(-3);
        Trial.given(Trial.textOf(2999), "xyz").call("swap", 5, 6).isRefused(-3);
    }

    static void promise07_swap_tooLongThoughToIsFarBeyondTheEnd() {
        Trial.given(FULL, "xyz").call("swap", 2998, 3001).isRefused(-3);
        Trial.given(FULL, "xyz").call("swap", 2998, MOST).isRefused(-3);
    }

    static void promise07_swap_wrongPlacesOfAFullTextAreOutOfRange() {
        Trial.given(FULL, "xy").call("swap", 3001, 3001).isRefused(-1);
        Trial.given(FULL, "xy").call("swap", -1, 0).isRefused(-1);
        Trial.given(FULL, "xy").call("swap", 2, 1).isRefused(-1);
    }

    private static void addsDigits(long number) {
        String text = "abc" + number;
        Trial.given("abc", "xy").call("add", 0, number).answers(text.length()).leaves(text, "xy");
    }
}
