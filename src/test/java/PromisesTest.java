/** Each promise by itself: ordinary inputs, the edges that the document names, and wrong inputs. */
public final class PromisesTest {
    private static final int LEAST = Integer.MIN_VALUE;
    private static final int MOST = Integer.MAX_VALUE;
    private static final int[] NO_SIGNS = {-1, 65536, 55296, 56000, 57343, LEAST, MOST};
    private static final int[] EDGE_SIGNS = {0, 1, 255, 256, 55295, 57344, 65535};
    private static final String FORTY = "abcdefghijklmnopqrstuvwxyzABCDEFGHIJKLMN";
    private static final String FULL = longText(3000);

    private static final Checks checks = new Checks();

    public static void main(String[] args) {
        newObject();
        note();
        drop();
        addDigits();
        addTruth();
        addScrap();
        addSign();
        addWrongOrTooLong();
        insert();
        insertWrongOrTooLong();
        cut();
        swap();
        swapWrongOrTooLong();
        take();
        set();
        get();
        turn();
        findFirst();
        findLast();
        findEmptyScrap();
        length();
        lift();
        look();
        scrap();
        compare();
        checks.end();
    }

    private static String longText(int size) {
        return "abc" + "\0".repeat(size - 6) + "xyz";
    }

    private static void newObject() {
        checks.about("promise 1");
        TextLoom loom = new TextLoom();
        checks.due("look(0)", loom.look(0), 0);
        checks.due("look(1)", loom.look(1), 0);
        checks.due("look(2)", loom.look(2), 0);
        checks.due("get(0)", loom.get(0), -1);
        checks.due("scrap(0)", loom.scrap(0), -1);
        checks.due("compare()", loom.compare(), 0);

        TextLoom other = new TextLoom();
        loom.add(3, 'a');
        loom.note('b');
        checks.dueState("of an object beside it", other, "", "");
    }

    private static void note() {
        checks.about("promise 2");
        TextLoom loom = new TextLoom();
        for (int k = 0; k < EDGE_SIGNS.length; k++) {
            checks.due("note(" + EDGE_SIGNS[k] + ")", loom.note(EDGE_SIGNS[k]), k + 1);
            checks.due("scrap(" + k + ")", loom.scrap(k), EDGE_SIGNS[k]);
        }
        for (int sign : NO_SIGNS) {
            checks.due("note(" + sign + ")", loom.note(sign), -1);
        }
        checks.due("look(1)", loom.look(1), EDGE_SIGNS.length);

        TextLoom full = Checks.loomWith("x", FORTY.substring(1));
        checks.due("note('z')", full.note('z'), 40);
        checks.due("note('y') with 40", full.note('y'), -3);
        for (int sign : NO_SIGNS) {
            checks.due("note(" + sign + ") with 40", full.note(sign), -1);
        }
        checks.dueState("after what was refused", full, "x", FORTY.substring(1) + "z");
    }

    private static void drop() {
        checks.about("promise 3");
        TextLoom loom = Checks.loomWith("text", "ab");
        checks.due("drop()", loom.drop(), 2);
        checks.dueState("after drop", loom, "text", "");
        checks.due("drop() again", loom.drop(), 0);
        checks.due("note('z')", loom.note('z'), 1);
        checks.dueState("after note", loom, "text", "z");
        TextLoom full = Checks.loomWith("", FORTY);
        checks.due("drop() of 40", full.drop(), 40);
    }

    private static void addDigits() {
        checks.about("promise 4, what 0");
        long[] numbers = {0, 1, -1, 9, 10, -10, 99, 100, 1234567890, -77, MOST, LEAST, 4294967296L,
            999999999999999999L, 1000000000000000000L, Long.MAX_VALUE, Long.MIN_VALUE};
        for (long number : numbers) {
            TextLoom loom = Checks.loomWith("x", "ab");
            String want = "x" + number;
            checks.due("add(0, " + number + ")", loom.add(0, number), want.length());
            checks.dueState("after add(0, " + number + ")", loom, want, "ab");
        }
    }

    private static void addTruth() {
        checks.about("promise 4, what 1");
        TextLoom loom = Checks.loomWith("x", "ab");
        checks.due("add(1, 0)", loom.add(1, 0), 6);
        checks.due("add(1, 1)", loom.add(1, 1), 10);
        checks.due("add(1, -1)", loom.add(1, -1), 14);
        checks.due("add(1, 2^32)", loom.add(1, 4294967296L), 18);
        checks.dueState("after them", loom, "xfalsetruetruetrue", "ab");
    }

    private static void addScrap() {
        checks.about("promise 4, what 2");
        TextLoom loom = Checks.loomWith("x", "ab");
        checks.due("add(2, 7)", loom.add(2, 7), 3);
        checks.due("add(2, -1)", loom.add(2, -1), 5);
        checks.dueState("after both", loom, "xabab", "ab");
        loom.drop();
        checks.due("add(2, 0) of nothing", loom.add(2, 0), 5);
        checks.dueState("after it", loom, "xabab", "");
    }

    private static void addSign() {
        checks.about("promise 4, what 3");
        TextLoom loom = new TextLoom();
        for (int k = 0; k < EDGE_SIGNS.length; k++) {
            checks.due("add(3, " + EDGE_SIGNS[k] + ")", loom.add(3, EDGE_SIGNS[k]), k + 1);
            checks.due("get(" + k + ")", loom.get(k), EDGE_SIGNS[k]);
        }
        for (int sign : NO_SIGNS) {
            checks.due("add(3, " + sign + ")", loom.add(3, sign), -1);
        }
        checks.due("add(3, 2^32 + 65)", loom.add(3, 4294967296L + 65), -1);
        checks.due("add(3, 65 - 2^32)", loom.add(3, 65 - 4294967296L), -1);
        checks.due("add(3, least)", loom.add(3, Long.MIN_VALUE), -1);
        checks.due("look(0)", loom.look(0), EDGE_SIGNS.length);
    }

    private static void addWrongOrTooLong() {
        checks.about("promise 4, refused");
        TextLoom loom = Checks.loomWith(FULL, "ab");
        for (int what : new int[] {-1, 4, LEAST, MOST}) {
            checks.due("add(" + what + ", 1) of a full text", loom.add(what, 1), -1);
        }
        checks.due("add(3, 65536) of a full text", loom.add(3, 65536), -1);
        checks.due("add(0, 0)", loom.add(0, 0), -3);
        checks.due("add(1, 0)", loom.add(1, 0), -3);
        checks.due("add(2, 0)", loom.add(2, 0), -3);
        checks.due("add(3, 65)", loom.add(3, 65), -3);
        checks.dueState("after what was refused", loom, FULL, "ab");
        loom.drop();
        checks.due("add(2, 0) of nothing", loom.add(2, 0), 3000);

        addUpToTheLimit("add(0, 1234)", 0, 1234, 4);
        addUpToTheLimit("add(0, -123)", 0, -123, 4);
        addUpToTheLimit("add(0, least)", 0, Long.MIN_VALUE, 20);
        addUpToTheLimit("add(1, 0)", 1, 0, 5);
        addUpToTheLimit("add(1, 1)", 1, 1, 4);
        addUpToTheLimit("add(2, 0)", 2, 0, 2);
        addUpToTheLimit("add(3, 65)", 3, 65, 1);
    }

    private static void addUpToTheLimit(String call, int what, long number, int size) {
        TextLoom loom = Checks.loomWith(longText(3000 - size), "ab");
        checks.due(call + " that fits just so", loom.add(what, number), 3000);
        TextLoom tight = Checks.loomWith(longText(3001 - size), "ab");
        checks.due(call + " that is one too long", tight.add(what, number), -3);
        checks.dueState("after " + call, tight, longText(3001 - size), "ab");
    }

    private static void insert() {
        checks.about("promise 5");
        TextLoom loom = Checks.loomWith("xyz", "ab");
        checks.due("insert(0, false, 9)", loom.insert(0, false, 9), 5);
        checks.due("insert(3, false, 9)", loom.insert(3, false, 9), 7);
        checks.due("insert(7, false, 9)", loom.insert(7, false, 9), 9);
        checks.dueState("after scraps", loom, "abxabyzab", "ab");
        checks.due("insert(0, true, -77)", loom.insert(0, true, -77), 12);
        checks.due("insert(6, true, 0)", loom.insert(6, true, 0), 13);
        checks.due("insert(13, true, 58)", loom.insert(13, true, 58), 15);
        checks.dueState("after digits", loom, "-77abx0abyzab58", "ab");
        checks.due("insert(1, true, least)", loom.insert(1, true, Long.MIN_VALUE), 35);
        checks.dueState("after the least", loom, "--922337203685477580877abx0abyzab58", "ab");
        loom.drop();
        checks.due("insert(1, false, 5) of nothing", loom.insert(1, false, 5), 35);
        TextLoom empty = new TextLoom();
        checks.due("insert(0, true, 12) of an empty text", empty.insert(0, true, 12), 2);
        checks.dueState("after it", empty, "12", "");
    }

    private static void insertWrongOrTooLong() {
        checks.about("promise 5, refused");
        TextLoom loom = Checks.loomWith("xyz", "ab");
        for (int place : new int[] {-1, 4, LEAST, MOST}) {
            checks.due("insert(" + place + ", false, 1)", loom.insert(place, false, 1), -1);
            checks.due("insert(" + place + ", true, 1)", loom.insert(place, true, 1), -1);
        }
        checks.dueState("after wrong places", loom, "xyz", "ab");

        TextLoom full = Checks.loomWith(FULL, "ab");
        checks.due("insert(3001, true, 1) of a full text", full.insert(3001, true, 1), -1);
        checks.due("insert(-1, false, 1) of a full text", full.insert(-1, false, 1), -1);
        checks.due("insert(3000, true, 1)", full.insert(3000, true, 1), -3);
        checks.due("insert(0, false, 1)", full.insert(0, false, 1), -3);
        checks.dueState("after too long", full, FULL, "ab");
        full.drop();
        checks.due("insert(5, false, 1) of nothing", full.insert(5, false, 1), 3000);

        String nearly = longText(2998);
        TextLoom tight = Checks.loomWith(nearly, "abc");
        checks.due("insert(1, true, -77)", tight.insert(1, true, -77), -3);
        checks.due("insert(1, false, 0)", tight.insert(1, false, 0), -3);
        checks.dueState("after one too long", tight, nearly, "abc");
        checks.due("insert(1, true, -7)", tight.insert(1, true, -7), 3000);
        checks.dueState("after it", tight, nearly.charAt(0) + "-7" + nearly.substring(1), "abc");
    }

    private static void cut() {
        checks.about("promise 6");
        TextLoom loom = Checks.loomWith("abcdefgh", "xy");
        checks.due("cut(2, 4)", loom.cut(2, 4), 6);
        checks.dueState("after cut(2, 4)", loom, "abefgh", "xy");
        checks.due("cut(0, 1)", loom.cut(0, 1), 5);
        checks.due("cut(3, 3)", loom.cut(3, 3), 5);
        checks.due("cut(5, 5)", loom.cut(5, 5), 5);
        checks.due("cut(5, most)", loom.cut(5, MOST), 5);
        checks.dueState("after it", loom, "befgh", "xy");
        checks.due("cut(3, most)", loom.cut(3, MOST), 3);
        checks.dueState("after cut(3, most)", loom, "bef", "xy");
        int[][] wrong = {{-1, 2}, {4, 4}, {4, 9}, {2, 1}, {0, -1}, {LEAST, MOST}, {MOST, MOST}, {3, LEAST}};
        for (int[] pair : wrong) {
            checks.due("cut(" + pair[0] + ", " + pair[1] + ")", loom.cut(pair[0], pair[1]), -1);
        }
        checks.dueState("after what was refused", loom, "bef", "xy");
        checks.due("cut(0, 3)", loom.cut(0, 3), 0);
        checks.due("cut(0, 0) of nothing", loom.cut(0, 0), 0);
        checks.due("get(0)", loom.get(0), -1);
    }

    private static void swap() {
        checks.about("promise 7");
        TextLoom loom = Checks.loomWith("abcdefgh", "xy");
        checks.due("swap(2, 6)", loom.swap(2, 6), 6);
        checks.dueState("after fewer", loom, "abxygh", "xy");
        checks.due("swap(0, 1)", loom.swap(0, 1), 7);
        checks.dueState("after more", loom, "xybxygh", "xy");
        checks.due("swap(3, 3)", loom.swap(3, 3), 9);
        checks.dueState("after none", loom, "xybxyxygh", "xy");
        checks.due("swap(8, most)", loom.swap(8, MOST), 10);
        checks.due("swap(10, 11)", loom.swap(10, 11), 12);
        checks.dueState("after the end", loom, "xybxyxygxyxy", "xy");
        loom.drop();
        checks.due("swap(1, 11) for nothing", loom.swap(1, 11), 2);
        checks.dueState("after it", loom, "xy", "");
    }

    private static void swapWrongOrTooLong() {
        checks.about("promise 7, refused");
        TextLoom full = Checks.loomWith(FULL, "xyz");
        int[][] wrong = {{-1, 2}, {3001, 3001}, {2, 1}, {0, -1}, {LEAST, MOST}, {MOST, MOST}, {3000, LEAST}};
        for (int[] pair : wrong) {
            checks.due("swap(" + pair[0] + ", " + pair[1] + ")", full.swap(pair[0], pair[1]), -1);
        }
        checks.due("swap(0, 2)", full.swap(0, 2), -3);
        checks.due("swap(3000, most)", full.swap(3000, MOST), -3);
        checks.due("swap(2998, 3001)", full.swap(2998, 3001), -3);
        checks.dueState("after what was refused", full, FULL, "xyz");
        checks.due("swap(1, 4)", full.swap(1, 4), 3000);
        checks.dueState("after it", full, "axyz" + FULL.substring(4), "xyz");
    }

    private static void take() {
        checks.about("promise 8");
        TextLoom loom = Checks.loomWith("abcde", "xy");
        checks.due("take(1)", loom.take(1), (int) 'b');
        checks.due("take(0)", loom.take(0), (int) 'a');
        checks.due("take(2)", loom.take(2), (int) 'e');
        checks.dueState("after them", loom, "cd", "xy");
        for (int place : new int[] {-1, 2, LEAST, MOST}) {
            checks.due("take(" + place + ")", loom.take(place), -1);
        }
        checks.dueState("after what was refused", loom, "cd", "xy");
        checks.due("take(0) of nothing", new TextLoom().take(0), -1);
        TextLoom full = Checks.loomWith(FULL, "");
        checks.due("take(2999)", full.take(2999), (int) 'z');
        checks.due("look(0)", full.look(0), 2999);
    }

    private static void set() {
        checks.about("promise 9");
        TextLoom loom = Checks.loomWith("abc", "xy");
        checks.due("set(0, 'q')", loom.set(0, 'q'), (int) 'a');
        checks.due("set(2, 65535)", loom.set(2, 65535), (int) 'c');
        checks.due("set(2, 0)", loom.set(2, 0), 65535);
        checks.due("set(2, 57344)", loom.set(2, 57344), 0);
        checks.due("set(2, 55295)", loom.set(2, 55295), 57344);
        for (int place : new int[] {-1, 3, LEAST, MOST}) {
            checks.due("set(" + place + ", 'z')", loom.set(place, 'z'), -1);
        }
        for (int sign : NO_SIGNS) {
            checks.due("set(1, " + sign + ")", loom.set(1, sign), -1);
        }
        checks.dueState("after them", loom, "qb" + (char) 55295, "xy");
    }

    private static void get() {
        checks.about("promise 10");
        TextLoom loom = Checks.loomWith("abc", "wxyz");
        checks.due("get(0)", loom.get(0), (int) 'a');
        checks.due("get(2)", loom.get(2), (int) 'c');
        for (int place : new int[] {-1, 3, LEAST, MOST}) {
            checks.due("get(" + place + ")", loom.get(place), -1);
        }
        TextLoom full = Checks.loomWith(FULL, "");
        checks.due("get(2999)", full.get(2999), (int) 'z');
        checks.due("get(3000)", full.get(3000), -1);
        checks.dueState("after get", loom, "abc", "wxyz");
    }

    private static void turn() {
        checks.about("promise 11");
        for (String text : new String[] {"", "a", "ab", "abc", "abcdef", FULL, longText(2999)}) {
            TextLoom loom = Checks.loomWith(text, "xy");
            String turned = new StringBuilder(text).reverse().toString();
            checks.due("turn() of " + text.length(), loom.turn(), text.length());
            checks.dueState("after turn", loom, turned, "xy");
        }
    }

    private static void findFirst() {
        checks.about("promise 12, first");
        TextLoom loom = Checks.loomWith("abaabababa", "aba");
        int[][] dues = {{LEAST, 0}, {-1, 0}, {0, 0}, {1, 3}, {3, 3}, {4, 5}, {6, 7}, {7, 7}, {8, -1},
            {10, -1}, {11, -1}, {MOST, -1}};
        for (int[] due : dues) {
            checks.due("find(" + due[0] + ", false)", loom.find(due[0], false), due[1]);
        }
        checks.dueState("after find", loom, "abaabababa", "aba");
        checks.due("find of what isn't there", Checks.loomWith("abcabc", "ac").find(0, false), -1);
        checks.due("find of the whole", Checks.loomWith("abc", "abc").find(0, false), 0);
        checks.due("find of more", Checks.loomWith("abc", "abcd").find(0, false), -1);
        checks.due("find in nothing", Checks.loomWith("", "a").find(0, false), -1);

        // What was cut may still stand behind the end, and is not to be found.
        TextLoom shorter = Checks.loomWith("xxab", "ab");
        shorter.cut(3, 4);
        checks.due("find over the end", shorter.find(0, false), -1);
        checks.due("find over the end, last", shorter.find(9, true), -1);
    }

    private static void findLast() {
        checks.about("promise 12, last");
        TextLoom loom = Checks.loomWith("abaabababa", "aba");
        int[][] dues = {{LEAST, -1}, {-1, -1}, {0, 0}, {1, 0}, {2, 0}, {3, 3}, {4, 3}, {5, 5}, {6, 5},
            {7, 7}, {8, 7}, {10, 7}, {11, 7}, {MOST, 7}};
        for (int[] due : dues) {
            checks.due("find(" + due[0] + ", true)", loom.find(due[0], true), due[1]);
        }
        checks.dueState("after find", loom, "abaabababa", "aba");
        checks.due("find of what isn't there", Checks.loomWith("abcabc", "ac").find(6, true), -1);
        checks.due("find of the whole", Checks.loomWith("abc", "abc").find(3, true), 0);
        checks.due("find of more", Checks.loomWith("abc", "abcd").find(3, true), -1);
        checks.due("find in nothing", Checks.loomWith("", "a").find(0, true), -1);
        checks.due("find before where it stands", Checks.loomWith("xab", "ab").find(0, true), -1);
    }

    private static void findEmptyScrap() {
        checks.about("promise 12, an empty scrap");
        TextLoom loom = Checks.loomWith("abc", "");
        int[][] firsts = {{LEAST, 0}, {-1, 0}, {0, 0}, {2, 2}, {3, 3}, {4, 3}, {MOST, 3}};
        for (int[] due : firsts) {
            checks.due("find(" + due[0] + ", false)", loom.find(due[0], false), due[1]);
        }
        int[][] lasts = {{LEAST, -1}, {-1, -1}, {0, 0}, {2, 2}, {3, 3}, {4, 3}, {MOST, 3}};
        for (int[] due : lasts) {
            checks.due("find(" + due[0] + ", true)", loom.find(due[0], true), due[1]);
        }
        TextLoom empty = new TextLoom();
        checks.due("find(5, false) in nothing", empty.find(5, false), 0);
        checks.due("find(5, true) in nothing", empty.find(5, true), 0);
        checks.due("find(-1, true) in nothing", empty.find(-1, true), -1);
    }

    private static void length() {
        checks.about("promise 13");
        TextLoom loom = Checks.loomWith("abcdef", "xy");
        checks.due("length(6)", loom.length(6), 6);
        checks.dueState("after the same", loom, "abcdef", "xy");
        checks.due("length(2)", loom.length(2), 2);
        checks.dueState("after fewer", loom, "ab", "xy");
        checks.due("length(5)", loom.length(5), 5);
        checks.dueState("after more", loom, "ab\0\0\0", "xy");
        checks.due("length(-1)", loom.length(-1), -1);
        checks.due("length(least)", loom.length(LEAST), -1);
        checks.due("length(3001)", loom.length(3001), -3);
        checks.due("length(most)", loom.length(MOST), -3);
        checks.dueState("after what was refused", loom, "ab\0\0\0", "xy");
        checks.due("length(3000)", loom.length(3000), 3000);
        checks.dueState("after the most", loom, "ab" + "\0".repeat(2998), "xy");
        checks.due("length(0)", loom.length(0), 0);
        checks.dueState("after nothing", loom, "", "xy");
        checks.due("length(2) again", loom.length(2), 2);
        checks.dueState("after nothing and more", loom, "\0\0", "xy");
    }

    private static void lift() {
        checks.about("promise 14");
        TextLoom loom = Checks.loomWith("abcdef", "vwxyz");
        checks.due("lift(1, 4)", loom.lift(1, 4), 3);
        checks.dueState("after lift(1, 4)", loom, "abcdef", "bcd");
        checks.due("lift(0, 6)", loom.lift(0, 6), 6);
        checks.dueState("after all", loom, "abcdef", "abcdef");
        int[][] wrong = {{-1, 2}, {2, 1}, {0, 7}, {7, 7}, {6, 7}, {LEAST, MOST}, {MOST, MOST}, {0, MOST},
            {6, LEAST}};
        for (int[] pair : wrong) {
            checks.due("lift(" + pair[0] + ", " + pair[1] + ")", loom.lift(pair[0], pair[1]), -1);
        }
        checks.dueState("after what was refused", loom, "abcdef", "abcdef");
        checks.due("lift(6, 6)", loom.lift(6, 6), 0);
        checks.dueState("after none", loom, "abcdef", "");

        TextLoom full = Checks.loomWith(FULL, "xy");
        checks.due("lift(0, 41)", full.lift(0, 41), -3);
        checks.due("lift(0, 3000)", full.lift(0, 3000), -3);
        checks.due("lift(0, 3001)", full.lift(0, 3001), -1);
        checks.dueState("after too many", full, FULL, "xy");
        checks.due("lift(2960, 3000)", full.lift(2960, 3000), 40);
        checks.dueState("after 40", full, FULL, FULL.substring(2960));
        full.set(2999, 'q');
        checks.due("scrap(39) after set", full.scrap(39), (int) 'z');
    }

    private static void look() {
        checks.about("promise 15");
        TextLoom loom = Checks.loomWith("abc", "vwxyz");
        checks.due("look(0)", loom.look(0), 3);
        checks.due("look(1)", loom.look(1), 5);
        checks.due("look(2)", loom.look(2), 'a' + 2 * 'b' + 3 * 'c');
        for (int what : new int[] {-1, 3, LEAST, MOST}) {
            checks.due("look(" + what + ")", loom.look(what), -1);
        }
        checks.dueState("after look", loom, "abc", "vwxyz");
        TextLoom large = Checks.loomWith("", "\uffff".repeat(40));
        for (int k = 0; k < 75; k++) {
            large.add(2, 0);
        }
        checks.due("look(0) of the most", large.look(0), 3000);
        checks.due("look(2) that wraps", large.look(2), (int) (4501500L * 65535));
    }

    private static void scrap() {
        checks.about("promise 16");
        TextLoom loom = Checks.loomWith("abcdef", "xyz");
        checks.due("scrap(0)", loom.scrap(0), (int) 'x');
        checks.due("scrap(2)", loom.scrap(2), (int) 'z');
        for (int k : new int[] {-1, 3, 40, LEAST, MOST}) {
            checks.due("scrap(" + k + ")", loom.scrap(k), -1);
        }
        checks.dueState("after scrap", loom, "abcdef", "xyz");
        loom.drop();
        checks.due("scrap(0) after drop", loom.scrap(0), -1);
        TextLoom full = Checks.loomWith("", FORTY);
        checks.due("scrap(39)", full.scrap(39), (int) 'N');
        checks.due("scrap(40)", full.scrap(40), -1);
    }

    private static void compare() {
        checks.about("promise 17");
        String[][] dues = {{"", "", "0"}, {"a", "", "1"}, {"", "a", "-1"}, {"abc", "abc", "0"},
            {"ab", "abc", "-1"}, {"abc", "ab", "1"}, {"abd", "abc", "1"}, {"abc", "abd", "-1"},
            {"b", "abc", "1"}, {"abc", "b", "-1"}, {"\0", "", "1"}, {"\uffff", "a", "1"},
            {"a", "\uffff", "-1"}, {"\u8000", "\u7fff", "1"}, {FULL, "abc", "1"}, {FULL, "abd", "-1"}};
        for (String[] due : dues) {
            TextLoom loom = Checks.loomWith(due[0], due[1]);
            checks.due("compare() of " + due[0].length() + " with " + due[1], loom.compare(),
                    Integer.parseInt(due[2]));
            checks.dueState("after compare", loom, due[0], due[1]);
        }
        // What was cut or dropped may still stand behind the end, and is not compared.
        TextLoom shorter = Checks.loomWith("abz", "aby");
        shorter.cut(2, 3);
        shorter.lift(0, 2);
        checks.due("compare() of what was the beginning", shorter.compare(), 0);
    }
}
