/** The boundaries that the document's "Terms" name, held by every call that they bind; and promise 1. */
public final class TermsBoundaryTest {
    private static final String FULL = Trial.FULL;
    private static final String FORTY = Trial.FORTY;

    public static void main(String[] args) {
        Cases.runAll(TermsBoundaryTest.class);
    }

    static void terms_sign_0IsTheSmallest() {
        everyCallTakesSign(0);
    }

    static void terms_sign_belowTheSmallestIsNone() {
        everyCallRefusesSign(-1);
    }

    static void terms_sign_65535IsTheLargest() {
        everyCallTakesSign(65535);
    }

    static void terms_sign_aboveTheLargestIsNone() {
        everyCallRefusesSign(65536);
    }

    static void terms_sign_55295IsTheLastBeforeTheHalves() {
        everyCallTakesSign(55295);
    }

    static void terms_sign_theFirstHalf55296IsNone() {
        everyCallRefusesSign(55296);
    }

    static void terms_sign_halvesInTheMiddleAreNone() {
        everyCallRefusesSign(56319);
        everyCallRefusesSign(56320);
    }

    static void terms_sign_theLastHalf57343IsNone() {
        everyCallRefusesSign(57343);
    }

    static void terms_sign_57344IsTheFirstBehindTheHalves() {
        everyCallTakesSign(57344);
    }

    static void terms_text_3000SignsAreReachedByEveryCall() {
        Trial.given(Trial.textOf(2998), "").call("add", 0, 10).answers(3000)
                .leaves(Trial.textOf(2998) + "10", "");
        Trial.given(Trial.textOf(2996), "").call("add", 1, 1).answers(3000)
                .leaves(Trial.textOf(2996) + "true", "");
        Trial.given(Trial.textOf(2998), "xy").call("add", 2, 0).answers(3000)
                .leaves(Trial.textOf(2998) + "xy", "xy");
        Trial.given(Trial.textOf(2999), "").call("add", 3, 'x').answers(3000)
                .leaves(Trial.textOf(2999) + "x", "");
        Trial.given(Trial.textOf(2998), "xy").call("insert", 0, false, 0).answers(3000)
                .leaves("xy" + Trial.textOf(2998), "xy");
        Trial.given(Trial.textOf(2998), "").call("insert", 0, true, 10).answers(3000)
                .leaves("10" + Trial.textOf(2998), "");
        Trial.given(Trial.textOf(2999), "xy").call("swap", 0, 1).answers(3000)
                .leaves("xy" + Trial.textOf(2999).substring(1), "xy");
        Trial.given(Trial.textOf(2999), "").call("length", 3000).answers(3000)
                .leaves(Trial.textOf(2999) + "\0", "");
    }

    static void terms_text_3001SignsAreRefusedByEveryCall() {
        Trial.given(Trial.textOf(2999), "xy").call("add", 0, 10).isRefused(-3);
        Trial.given(Trial.textOf(2997), "xy").call("add", 1, 1).isRefused(-3);
        Trial.given(Trial.textOf(2999), "xy").call("add", 2, 0).isRefused(-3);
        Trial.given(FULL, "xy").call("add", 3, 'x').isRefused(-3);
        Trial.given(Trial.textOf(2999), "xy").call("insert", 0, false, 0).isRefused(-3);
        Trial.given(Trial.textOf(2999), "xy").call("insert", 0, true, 10).isRefused(-3);
        Trial.given(FULL, "xy").call("swap", 0, 1).isRefused(-3);
        Trial.given(FULL, "xy").call("length", 3001).isRefused(-3);
    }

    static void terms_text_aFullOneTakesCallsThatDoNotMakeItLonger() {
        Trial.given(FULL, "").call("add", 2, 0).answers(3000).leaves(FULL, "");
        Trial.given(FULL, "").call("insert", 1500, false, 0).answers(3000).leaves(FULL, "");
        Trial.given(FULL, "xy").call("swap", 0, 2).answers(3000).leaves("xy" + FULL.substring(2), "xy");
        Trial.given(FULL, "xy").call("cut", 3000, 3000).answers(3000).leaves(FULL, "xy");
        Trial.given(FULL, "xy").call("length", 3000).answers(3000).leaves(FULL, "xy");
        Trial.given(FULL, "xy").call("set", 0, '!').answers('a').leaves("!" + FULL.substring(1), "xy");
    }

    static void terms_text_hasRoomAgainWhenAFullOneIsCut() {
        Trial.given(FULL, "").call("cut", 0, 1).call("add", 3, 'x').answers(3000)
                .leaves(FULL.substring(1) + "x", "");
    }

    static void terms_place_belowTheFirstIsOutOfRangeForEveryCall() {
        Trial.given("abc", "xy").call("insert", -1, false, 0).isRefused(-1);
        Trial.given("abc", "xy").call("insert", -1, true, 0).isRefused(-1);
        Trial.given("abc", "xy").call("cut", -1, 1).isRefused(-1);
        Trial.given("abc", "xy").call("swap", -1, 1).isRefused(-1);
        Trial.given("abc", "xy").call("take", -1).isRefused(-1);
        Trial.given("abc", "xy").call("set", -1, 'z').isRefused(-1);
        Trial.given("abc", "xy").call("get", -1).isRefused(-1);
        Trial.given("abc", "xy").call("lift", -1, 1).isRefused(-1);
    }

    static void terms_outOfRange_placeIsAskedBeforeTooLong() {
        Trial.given(FULL, "xy").call("insert", -1, false, 0).isRefused(-1);
        Trial.given(FULL, "xy").call("insert", 3001, false, 0).isRefused(-1);
        Trial.given(FULL, "xy").call("insert", -1, true, 1).isRefused(-1);
        Trial.given(FULL, "xy").call("insert", 3001, true, 1).isRefused(-1);
        Trial.given(FULL, "xy").call("swap", -1, 0).isRefused(-1);
        Trial.given(FULL, "xy").call("swap", 3001, 3001).isRefused(-1);
        Trial.given(FULL, "xy").call("swap", 1, 0).isRefused(-1);
    }

    static void terms_outOfRange_signIsAskedBeforeTooLong() {
        Trial.given(FULL, "xy").call("add", 3, -1).isRefused(-1);
        Trial.given(FULL, "xy").call("add", 3, 65536).isRefused(-1);
        Trial.given(FULL, "xy").call("add", 3, 55296).isRefused(-1);
        Trial.given("abc", FORTY).call("note", -1).isRefused(-1);
        Trial.given("abc", FORTY).call("note", 65536).isRefused(-1);
        Trial.given("abc", FORTY).call("note", 57343).isRefused(-1);
    }

    static void terms_outOfRange_whatIsAskedBeforeTooLong() {
        Trial.given(FULL, "xy").call("add", -1, 0).isRefused(-1);
        Trial.given(FULL, "xy").call("add", 4, 0).isRefused(-1);
    }

    static void terms_outOfRange_placesToLiftAreAskedBeforeTooLong() {
        Trial.given(FULL, "xy").call("lift", 2900, 3001).isRefused(-1);
        Trial.given(FULL, "xy").call("lift", -1, 2900).isRefused(-1);
    }

    static void terms_scrap_40SignsAreReachedByEveryCall() {
        Trial.given("abc", FORTY.substring(1)).call("note", 'z').answers(40)
                .leaves("abc", FORTY.substring(1) + "z");
        Trial.given(FORTY + "x", "abc").call("lift", 0, 40).answers(40).leaves(FORTY + "x", FORTY);
    }

    static void terms_scrap_41SignsAreRefusedByEveryCall() {
        Trial.given("abc", FORTY).call("note", 'z').isRefused(-3);
        Trial.given(FORTY + "x", "abc").call("lift", 0, 41).isRefused(-3);
    }

    static void terms_scrap_aFullOneIsNotTakenForAFullText() {
        Trial.given("abc", FORTY).call("add", 3, 'z').answers(4).leaves("abcz", FORTY);
        Trial.given(FULL, "ab").call("note", 'c').answers(3).leaves(FULL, "abc");
    }

    static void terms_refused_aRowOfRefusedCallsChangesNothing() {
        Trial.given(FULL, FORTY).call("note", 'z').call("note", -1).call("add", 0, 5).call("add", 1, 0)
                .call("add", 2, 0).call("add", 3, 'z').call("add", 9, 0).call("insert", 7, true, 8)
                .call("insert", 7, false, 8).call("insert", -7, false, 8).call("cut", 2, 1)
                .call("swap", 5, 6).call("swap", 6, 5).call("take", 3000).call("set", 3000, 'z')
                .call("set", 0, 65536).call("get", 3000).call("length", 3001).call("length", -1)
                .call("lift", 0, 41).call("lift", 0, 3001).call("look", 3).call("scrap", 40)
                .leaves(FULL, FORTY);
    }

    static void terms_object_answersUpToItsCall512() {
        CountedLoom loom = new CountedLoom("", "");
        for (int call = 1; call <= 512; call++) {
            Cases.CHECKS.due("call " + call + ", add(0, -12345)", loom.call("add", 0, -12345),
                    call <= 500 ? 6 * call : -3);
        }
    }

    static void promise01_newObject_textIsEmpty() {
        Trial.given("", "").call("look", 0).answers(0).leaves("", "");
        Trial.given("", "").call("look", 2).answers(0);
        Trial.given("", "").call("get", 0).isRefused(-1);
    }

    static void promise01_newObject_scrapIsEmpty() {
        Trial.given("", "").call("look", 1).answers(0);
        Trial.given("", "").call("scrap", 0).isRefused(-1);
        Trial.given("", "").call("drop").answers(0);
    }

    static void promise01_newObject_callsOnNothingAnswer() {
        Trial.given("", "").call("add", 2, 0).answers(0).leaves("", "");
        Trial.given("", "").call("insert", 0, false, 0).answers(0).leaves("", "");
        Trial.given("", "").call("cut", 0, 0).answers(0).leaves("", "");
        Trial.given("", "").call("swap", 0, 0).answers(0).leaves("", "");
        Trial.given("", "").call("turn").answers(0).leaves("", "");
        Trial.given("", "").call("find", 0, false).answers(0);
        Trial.given("", "").call("find", 0, true).answers(0);
        Trial.given("", "").call("length", 0).answers(0).leaves("", "");
        Trial.given("", "").call("lift", 0, 0).answers(0).leaves("", "");
        Trial.given("", "").call("compare").answers(0);
    }

    static void promise01_newObject_hasNoPlace() {
        Trial.given("", "").call("take", 0).isRefused(-1);
        Trial.given("", "").call("set", 0, 'z').isRefused(-1);
        Trial.given("", "").call("insert", 1, false, 0).isRefused(-1);
        Trial.given("", "").call("insert", 1, true, 0).isRefused(-1);
        Trial.given("", "").call("cut", 1, 1).isRefused(-1);
        Trial.given("", "").call("swap", 1, 1).isRefused(-1);
        Trial.given("", "").call("lift", 0, 1).isRefused(-1);
        Trial.given("", "").call("lift", 1, 1).isRefused(-1);
    }

    static void promise01_newObject_sharesNothingWithAnother() {
        CountedLoom first = new CountedLoom("", "");
        CountedLoom second = new CountedLoom("", "");
        first.call("add", 3, 'a');
        first.call("note", 'b');
        CountedLoom third = new CountedLoom("", "");
        for (CountedLoom other : new CountedLoom[] {second, third}) {
            Cases.CHECKS.due("look(0) of another", other.call("look", 0), 0);
            Cases.CHECKS.due("look(1) of another", other.call("look", 1), 0);
            Cases.CHECKS.due("length(1) of another", other.call("length", 1), 1);
            Cases.CHECKS.due("get(0) of another", other.call("get", 0), 0);
        }
        Cases.CHECKS.due("get(0) of the first", first.call("get", 0), (int) 'a');
        Cases.CHECKS.due("scrap(0) of the first", first.call("scrap", 0), (int) 'b');
    }

    private static void everyCallTakesSign(int sign) {
        String is = String.valueOf((char) sign);
        Trial.given("abc", "xy").call("note", sign).answers(3).leaves("abc", "xy" + is);
        Trial.given("abc", "xy").call("add", 3, sign).answers(4).leaves("abc" + is, "xy");
        Trial.given("abc", "xy").call("set", 1, sign).answers('b').leaves("a" + is + "c", "xy");
    }

    private static void everyCallRefusesSign(int sign) {
        Trial.given("abc", "xy").call("note", sign).isRefused(-1);
        Trial.given("abc", "xy").call("add", 3, sign).isRefused(-1);
        Trial.given("abc", "xy").call("set", 1, sign).isRefused(-1);
    }
}
