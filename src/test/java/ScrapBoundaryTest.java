/** The boundary cases of the calls about the scrap: note, drop, lift, scrap. */
public final class ScrapBoundaryTest {
    private static final int LEAST = Trial.LEAST;
    private static final int MOST = Trial.MOST;
    private static final String FULL = Trial.FULL;
    private static final String FORTY = Trial.FORTY;

    public static void main(String[] args) {
        Cases.runAll(ScrapBoundaryTest.class);
    }

    static void promise02_note_toAnEmptyScrap() {
        Trial.given("abc", "").call("note", 'x').answers(1).leaves("abc", "x");
    }

    static void promise02_note_theFortiethSignComes() {
        Trial.given("abc", FORTY.substring(0, 39)).call("note", 'z').answers(40)
                .leaves("abc", FORTY.substring(0, 39) + "z");
    }

    static void promise02_note_with40IsTooLong() {
        Trial.given("abc", FORTY).call("note", 'z').isRefused(-3);
        Trial.given("abc", FORTY).call("note", 0).isRefused(-3);
    }

    static void promise02_note_againAfterAFullScrapWasDropped() {
        Trial.given("abc", FORTY).call("note", 'z').call("drop").call("note", 'z').answers(1)
                .leaves("abc", "z");
    }

    static void promise02_note_smallestAndLargestSign() {
        Trial.given("", "x").call("note", 0).answers(2).leaves("", "x\0");
        Trial.given("", "x").call("note", 65535).answers(2).leaves("", "x\uffff");
    }

    static void promise02_note_signTooSmall() {
        Trial.given("abc", "xy").call("note", -1).isRefused(-1);
        Trial.given("abc", "xy").call("note", LEAST).isRefused(-1);
    }

    static void promise02_note_signTooLarge() {
        Trial.given("abc", "xy").call("note", 65536).isRefused(-1);
        Trial.given("abc", "xy").call("note", 65536 + 'z').isRefused(-1);
        Trial.given("abc", "xy").call("note", MOST).isRefused(-1);
    }

    static void promise02_note_halfOfAPairIsNoSign() {
        Trial.given("abc", "xy").call("note", 55296).isRefused(-1);
        Trial.given("abc", "xy").call("note", 56320).isRefused(-1);
        Trial.given("abc", "xy").call("note", 57343).isRefused(-1);
    }

    static void promise02_note_signsBesideTheHalves() {
        Trial.given("", "x").call("note", 55295).answers(2).leaves("", "x" + (char) 55295);
        Trial.given("", "x").call("note", 57344).answers(2).leaves("", "x" + (char) 57344);
    }

    static void promise02_note_noSignWith40IsOutOfRange() {
        Trial.given("abc", FORTY).call("note", -1).isRefused(-1);
        Trial.given("abc", FORTY).call("note", 55296).isRefused(-1);
        Trial.given("abc", FORTY).call("note", 65536).isRefused(-1);
    }

    static void promise03_drop_ofAnEmptyScrap() {
        Trial.given("abc", "").call("drop").answers(0).leaves("abc", "");
    }

    static void promise03_drop_ofOneSign() {
        Trial.given("abc", "x").call("drop").answers(1).leaves("abc", "");
    }

    static void promise03_drop_ofAFullScrap() {
        Trial.given("abc", FORTY).call("drop").answers(40).leaves("abc", "");
    }

    static void promise03_drop_twice() {
        Trial.given("abc", "xy").call("drop").call("drop").answers(0).leaves("abc", "");
    }

    static void promise03_drop_leavesAFullText() {
        Trial.given(FULL, "xy").call("drop").answers(2).leaves(FULL, "");
    }

    static void promise14_lift_fromTheFirstPlace() {
        Trial.given("abcdef", "vwxyz").call("lift", 0, 2).answers(2).leaves("abcdef", "ab");
    }

    static void promise14_lift_toTheEnd() {
        Trial.given("abcdef", "vwxyz").call("lift", 4, 6).answers(2).leaves("abcdef", "ef");
        Trial.given("abcdef", "vwxyz").call("lift", 0, 6).answers(6).leaves("abcdef", "abcdef");
    }

    static void promise14_lift_toBeyondTheEnd() {
        Trial.given("abcdef", "vwxyz").call("lift", 4, 7).isRefused(-1);
        Trial.given("abcdef", "vwxyz").call("lift", 6, 7).isRefused(-1);
        Trial.given("abcdef", "vwxyz").call("lift", 0, MOST).isRefused(-1);
    }

    static void promise14_lift_ofNoSigns() {
        Trial.given("abcdef", "vwxyz").call("lift", 0, 0).answers(0).leaves("abcdef", "");
        Trial.given("abcdef", "vwxyz").call("lift", 3, 3).answers(0).leaves("abcdef", "");
        Trial.given("abcdef", "vwxyz").call("lift", 6, 6).answers(0).leaves("abcdef", "");
    }

    static void promise14_lift_ofAnEmptyText() {
        Trial.given("", "vwxyz").call("lift", 0, 0).answers(0).leaves("", "");
        Trial.given("", "vwxyz").call("lift", 0, 1).isRefused(-1);
    }

    static void promise14_lift_fromBelow0() {
        Trial.given("abcdef", "vwxyz").call("lift", -1, 2).isRefused(-1);
        Trial.given("abcdef", "vwxyz").call("lift", -1, -1).isRefused(-1);
        Trial.given("abcdef", "vwxyz").call("lift", LEAST, 2).isRefused(-1);
        Trial.given("abcdef", "vwxyz").call("lift", LEAST, MOST).isRefused(-1);
    }

    static void promise14_lift_fromBeyondTheEnd() {
        Trial.given("abcdef", "vwxyz").call("lift", 7, 7).isRefused(-1);
        Trial.given("abcdef", "vwxyz").call("lift", 7, 6).isRefused(-1);
        Trial.given("abcdef", "vwxyz").call("lift", MOST, MOST).isRefused(-1);
    }

    static void promise14_lift_toLessThanFrom() {
        Trial.given("abcdef", "vwxyz").call("lift", 3, 2).isRefused(-1);
        Trial.given("abcdef", "vwxyz").call("lift", 0, -1).isRefused(-1);
        Trial.given("abcdef", "vwxyz").call("lift", 6, LEAST).isRefused(-1);
    }

    static void promise14_lift_of40Signs() {
        Trial.given(FULL, "xy").call("lift", 0, 40).answers(40).leaves(FULL, FORTY);
        Trial.given(FULL, "xy").call("lift", 2960, 3000).answers(40).leaves(FULL, FORTY);
        Trial.given(FORTY, FORTY).call("lift", 0, 40).answers(40).leaves(FORTY, FORTY);
    }

    static void promise14_lift_of41SignsIsTooLong() {
        Trial.given(FULL, "xy").call("lift", 0, 41).isRefused(-3);
        Trial.given(FULL, "xy").call("lift", 2959, 3000).isRefused(-3);
        Trial.given(FULL, "xy").call("lift", 0, 3000).isRefused(-3);
        Trial.given(FULL, FORTY).call("lift", 1, 42).isRefused(-3);
    }

    static void promise14_lift_beyondTheEndAndOver40IsOutOfRange() {
        Trial.given(FULL, "xy").call("lift", 0, 3001).isRefused(-1);
        Trial.given(FULL, "xy").call("lift", 2959, 3001).isRefused(-1);
        Trial.given("abcdef", "xy").call("lift", 0, 41).isRefused(-1);
    }

    static void promise14_lift_fewerSignsThanTheScrapHad() {
        Trial.given("abcdef", FORTY).call("lift", 5, 6).answers(1).leaves("abcdef", "f");
    }

    static void promise14_lift_isACopy() {
        Trial.given("abcdef", "xy").call("lift", 1, 3).call("set", 1, '!').leaves("a!cdef", "bc");
        Trial.given("abcdef", "xy").call("lift", 1, 3).call("note", '!').leaves("abcdef", "bc!");
    }

    static void promise16_scrap_firstAndLastSign() {
        Trial.given("abc", "xyz").call("scrap", 0).answers('x').leaves("abc", "xyz");
        Trial.given("abc", "xyz").call("scrap", 2).answers('z').leaves("abc", "xyz");
    }

    static void promise16_scrap_behindTheLastSign() {
        Trial.given("abcdef", "xyz").call("scrap", 3).isRefused(-1);
        Trial.given("abcdef", "xyz").call("scrap", 39).isRefused(-1);
        Trial.given("abcdef", "xyz").call("scrap", 40).isRefused(-1);
        Trial.given("abcdef", "xyz").call("scrap", MOST).isRefused(-1);
    }

    static void promise16_scrap_below0() {
        Trial.given("abcdef", "xyz").call("scrap", -1).isRefused(-1);
        Trial.given("abcdef", "xyz").call("scrap", LEAST).isRefused(-1);
    }

    static void promise16_scrap_ofAnEmptyScrap() {
        Trial.given("abcdef", "").call("scrap", 0).isRefused(-1);
    }

    static void promise16_scrap_ofAFullScrap() {
        Trial.given("abcdef", FORTY).call("scrap", 39).answers('N').leaves("abcdef", FORTY);
        Trial.given("abcdef", FORTY).call("scrap", 40).isRefused(-1);
    }

    static void promise16_scrap_ofWhatWasDropped() {
        Trial.given("abcdef", "xyz").call("drop").call("scrap", 0).answers(-1);
        Trial.given("abcdef", "xyz").call("drop").call("note", 'q').call("scrap", 1).answers(-1);
        Trial.given("abcdef", "xyz").call("lift", 0, 1).call("scrap", 1).answers(-1);
    }

    static void promise16_scrap_smallestAndLargestSign() {
        Trial.given("", "\0").call("scrap", 0).answers(0);
        Trial.given("", "\uffff").call("scrap", 0).answers(65535);
    }
}
