/**
 * Promises 22 to 30, slips: a test for each sentence of ../shared/DOC.md that names a boundary.
 * Each test bears the number of its promise, and the document's words that it holds the class to.
 */
public final class SlipBoundaryTest extends Wheels {
    public static void main(String[] args) throws Exception {
        runBoundaries(SlipBoundaryTest.class, 22, 23, 24, 25, 26, 27, 28, 29, 30);
    }

    private static final int[] NO_SLIPS = {-1, 3, 4, LEAST, MOST};
    private static final String FORTY = "abcdefghij".repeat(4);

    private static CaseWheel one(String letters) {
        return withSlip(new CaseWheel(), 0, letters);
    }

    // ---- 22: slip

    /** "SLIPS 0 .. 2", "UNKNOWN." */
    static void promise22_unknownSlip() {
        CaseWheel x = busy();
        dueRefusedForAll(x, "slip", x::slip, UNKNOWN, NO_SLIPS);
        dueForAll("slip", x::slip, 0, 0, 1, 2);
    }

    /** "A SLIP is a new one, empty: 0.": a missing one, one with letters, a full one. */
    static void promise22_aNewOneIsEmpty() {
        CaseWheel x = new CaseWheel();
        due("missing", x.slip(2), 0);
        due("it is there", x.cut(2, 0, 0), 0);
        withSlip(x, 2, FORTY);
        due("full", x.slip(2), 0);
        due("it is empty", x.drop(2), 0);
        due("dropped", x.slip(2), 0);
        due("it has room", x.insert(2, 0, 'a'), 1);
    }

    /** "A SLIP is a new one": the others stay. */
    static void promise22_theOthersStay() {
        CaseWheel x = withSlip(one("ab"), 2, "cd");
        x.slip(1);
        due("slip 0", slipOf(x, 0), "ab");
        due("slip 2", slipOf(x, 2), "cd");
    }

    // ---- 23: insert

    /** "UNKNOWN" */
    static void promise23_unknownSlip() {
        CaseWheel x = busy();
        dueRefusedForAll(x, "insert(_, 0, a)", s -> x.insert(s, 0, 'a'), UNKNOWN, NO_SLIPS);
    }

    /** "OUTSIDE: the letter": all but a .. z, 0 .. 9, a point 46. */
    static void promise23_outsideLetters() {
        CaseWheel x = one("a");
        dueRefusedForAll(x, "insert(0, 0, _)", letter -> x.insert(0, 0, letter), OUTSIDE,
            'a' - 1, 'z' + 1, '0' - 1, '9' + 1, '.' - 1, 'A', 'Z', ' ', ';', 0, -1, 255, 256 + 'a', LEAST, MOST);
    }

    /** "(a byte: a .. z, 0 .. 9, a point 46)": each of them. */
    static void promise23_lettersWithin() {
        CaseWheel x = one("");
        String all = "abcdefghijklmnopqrstuvwxyz0123456789.";
        for (int i = 0; i < all.length(); i++) due("insert", x.insert(0, i, all.charAt(i)), i + 1);
        due("the slip", slipOf(x, 0), all);
    }

    /** "NULL -11 (the SLIP is missing)" */
    static void promise23_missingSlip() {
        CaseWheel x = new CaseWheel();
        dueRefusedForAll(x, "insert(_, 0, a)", s -> x.insert(s, 0, 'a'), NULL, 0, 1, 2);
    }

    /** "at place i (0 to its length)", "INDEX" */
    static void promise23_placesBeyond() {
        CaseWheel x = one("");
        dueRefusedForAll(x, "of an empty one", i -> x.insert(0, i, 'a'), INDEX, -1, 1, LEAST, MOST);
        CaseWheel y = one("abc");
        dueRefusedForAll(y, "of three letters", i -> y.insert(0, i, 'a'), INDEX, -1, 4, LEAST, MOST);
    }

    /** "at place i (0 to its length): how long it is": ahead, within, behind. */
    static void promise23_placesWithin() {
        CaseWheel x = one("");
        due("into an empty one", x.insert(0, 0, 'b'), 1);
        due("ahead", x.insert(0, 0, 'a'), 2);
        due("behind", x.insert(0, 2, 'd'), 3);
        due("within", x.insert(0, 2, 'c'), 4);
        due("the slip", slipOf(x, 0), "abcd");
    }

    /** "ROOM -13 (there would be more than 40)" */
    static void promise23_roomFor40() {
        CaseWheel x = one(FORTY.substring(1));
        due("letter 40", x.insert(0, 0, 'z'), 40);
        due("the slip", slipOf(x, 0), "z" + FORTY.substring(1));
        dueRefusedForAll(x, "letter 41", i -> x.insert(0, i, 'z'), ROOM, 0, 20, 40);
        x.cut(0, 39, 40);
        due("room again", x.insert(0, 39, 'y'), 40);
    }

    /** "UNKNOWN; OUTSIDE: the letter; NULL; INDEX; ROOM.": the first of these that fits. */
    static void promise23_orderOfRefusals() {
        CaseWheel x = one(FORTY);
        due("UNKNOWN ahead of OUTSIDE", x.insert(3, -1, 'A'), UNKNOWN);
        due("OUTSIDE ahead of NULL", x.insert(1, -1, 'A'), OUTSIDE);
        due("OUTSIDE ahead of INDEX", x.insert(0, -1, 'A'), OUTSIDE);
        due("OUTSIDE ahead of ROOM", x.insert(0, 0, 'A'), OUTSIDE);
        due("NULL ahead of INDEX", x.insert(1, -1, 'a'), NULL);
        due("INDEX ahead of ROOM", x.insert(0, -1, 'a'), INDEX);
        due("INDEX ahead of ROOM, behind", x.insert(0, 41, 'a'), INDEX);
        due("ROOM", x.insert(0, 40, 'a'), ROOM);
        x.drop(0);
        due("NULL ahead of ROOM, of one that was full", x.insert(0, 40, 'a'), NULL);
    }

    // ---- 24: cut

    /** "UNKNOWN; NULL": the first of these that fits, ahead of INDEX. */
    static void promise24_unknownAndMissingSlips() {
        CaseWheel x = one("abc");
        dueRefusedForAll(x, "cut(_, 0, 0)", s -> x.cut(s, 0, 0), UNKNOWN, NO_SLIPS);
        due("UNKNOWN ahead of INDEX", x.cut(3, 2, 1), UNKNOWN);
        dueRefusedForAll(x, "cut(_, 0, 0)", s -> x.cut(s, 0, 0), NULL, 1, 2);
        due("NULL ahead of INDEX", x.cut(1, 2, 1), NULL);
    }

    /** "INDEX: i below 0" */
    static void promise24_iBelow0() {
        CaseWheel x = one("abc");
        dueRefusedForAll(x, "cut(0, _, 2)", i -> x.cut(0, i, 2), INDEX, -1, LEAST);
        dueRefusedForAll(x, "cut(0, _, _)", i -> x.cut(0, i, i), INDEX, -1, LEAST);
    }

    /** "j below i" */
    static void promise24_jBelowI() {
        CaseWheel x = one("abc");
        dueRefusedForAll(x, "cut(0, 2, _)", j -> x.cut(0, 2, j), INDEX, 1, 0, -1, LEAST);
        due("beyond, too", x.cut(0, 5, 4), INDEX);
    }

    /** "beyond the end" */
    static void promise24_beyondTheEnd() {
        CaseWheel x = one("abc");
        dueRefusedForAll(x, "cut(0, 1, _)", j -> x.cut(0, 1, j), INDEX, 4, 41, MOST);
        dueRefusedForAll(x, "cut(0, _, _)", j -> x.cut(0, j, j), INDEX, 4, MOST);
        CaseWheel y = one("");
        due("of an empty one", y.cut(0, 0, 1), INDEX);
    }

    /** "Letters from place i on, ahead of place j, go": none, if they are the same place. */
    static void promise24_nothingToCut() {
        CaseWheel x = one("abc");
        for (int i = 0; i <= 3; i++) due("cut(0, " + i + ", " + i + ")", x.cut(0, i, i), 3);
        due("the slip", slipOf(x, 0), "abc");
        due("of an empty one", one("").cut(0, 0, 0), 0);
    }

    /** "Letters from place i on, ahead of place j, go: how long it is.": ahead, within, behind, all. */
    static void promise24_spans() {
        CaseWheel x = one(FORTY);
        due("the first", x.cut(0, 0, 1), 39);
        due("the last", x.cut(0, 38, 39), 38);
        due("the slip", slipOf(x, 0), FORTY.substring(1, 39));
        due("within", x.cut(0, 2, 36), 4);
        due("the slip", slipOf(x, 0), "bchi");
        due("all", x.cut(0, 0, 4), 0);
        due("it is there still", x.cut(0, 0, 0), 0);
    }

    // ---- 25: join

    /** "UNKNOWN": either. */
    static void promise25_unknownSlips() {
        CaseWheel x = one("abc");
        dueRefusedForAll(x, "join(_, 0)", s -> x.join(s, 0), UNKNOWN, NO_SLIPS);
        dueRefusedForAll(x, "join(0, _)", s -> x.join(0, s), UNKNOWN, NO_SLIPS);
        due("UNKNOWN ahead of NULL", x.join(1, 3), UNKNOWN);
        due("UNKNOWN ahead of NULL", x.join(3, 1), UNKNOWN);
    }

    /** "NULL (either)": ahead of ROOM. */
    static void promise25_missingSlips() {
        CaseWheel x = one(FORTY);
        dueRefused(x, "the other", () -> x.join(0, 1), NULL);
        dueRefused(x, "itself", () -> x.join(1, 0), NULL);
        dueRefused(x, "both", () -> x.join(1, 2), NULL);
        dueRefused(x, "both, the same", () -> x.join(2, 2), NULL);
        withSlip(x, 1, FORTY).drop(1);
        dueRefused(x, "the other, that was full", () -> x.join(0, 1), NULL);
        dueRefused(x, "itself, that was full", () -> x.join(1, 0), NULL);
    }

    /** "ROOM -13 (there would be more than 40)": 40 is not more, 41 is. */
    static void promise25_roomFor40() {
        CaseWheel x = withSlip(one(FORTY.substring(20)), 1, FORTY.substring(20));
        due("20 and 20", x.join(0, 1), 40);
        due("the slip", slipOf(x, 0), FORTY);
        withSlip(x, 2, "a");
        dueRefused(x, "40 and 1", () -> x.join(0, 2), ROOM);
        dueRefused(x, "1 and 40", () -> x.join(2, 0), ROOM);
        dueRefused(x, "40 and itself", () -> x.join(0, 0), ROOM);
        CaseWheel y = one(FORTY.substring(19));
        dueRefused(y, "21 and itself", () -> y.join(0, 0), ROOM);
    }

    /** "behind it another one (or itself)" */
    static void promise25_itself() {
        CaseWheel x = one(FORTY.substring(20));
        due("20 and itself", x.join(0, 0), 40);
        due("the slip", slipOf(x, 0), FORTY);
        CaseWheel y = one("");
        due("an empty one and itself", y.join(0, 0), 0);
    }

    /** "A SLIP, and behind it another one": an empty one, and to one; the other stays. */
    static void promise25_emptyOnes() {
        CaseWheel x = withSlip(one(FORTY), 1, "");
        due("a full one and an empty one", x.join(0, 1), 40);
        due("an empty one and a full one", x.join(1, 0), 40);
        due("slip 0", slipOf(x, 0), FORTY);
        due("slip 1", slipOf(x, 1), FORTY);
        due("an empty one and an empty one", withSlip(withSlip(x, 1, ""), 2, "").join(1, 2), 0);
    }

    // ---- 26: letter

    /** "UNKNOWN; NULL; INDEX.": the first of these that fits. */
    static void promise26_unknownAndMissingSlips() {
        CaseWheel x = one("abc");
        dueRefusedForAll(x, "letter(_, 0)", s -> x.letter(s, 0), UNKNOWN, NO_SLIPS);
        dueRefusedForAll(x, "letter(_, 0)", s -> x.letter(s, 0), NULL, 1, 2);
        due("UNKNOWN ahead of INDEX", x.letter(3, -1), UNKNOWN);
        due("NULL ahead of INDEX", x.letter(1, -1), NULL);
    }

    /** "INDEX": below 0, beyond the last letter. */
    static void promise26_placesBeyond() {
        CaseWheel x = one("abc");
        dueRefusedForAll(x, "letter(0, _)", k -> x.letter(0, k), INDEX, -1, 3, 39, 40, LEAST, MOST);
        due("of an empty one", one("").letter(0, 0), INDEX);
        CaseWheel y = one(FORTY);
        due("the last of 40", y.letter(0, 39), (int) 'j');
        due("beyond 40", y.letter(0, 40), INDEX);
        y.cut(0, 3, 40);
        due("one that was cut", y.letter(0, 3), INDEX);
    }

    /** "The k-th letter of a SLIP, as a byte." */
    static void promise26_asAByte() {
        CaseWheel x = one("az09.");
        int[] bytes = {97, 122, 48, 57, 46};
        for (int k = 0; k < 5; k++) due("letter(0, " + k + ")", x.letter(0, k), bytes[k]);
    }

    // ---- 27: find

    /** "UNKNOWN; OUTSIDE; NULL (either).": the first of these that fits. */
    static void promise27_orderOfRefusals() {
        CaseWheel x = one("abc");
        dueRefusedForAll(x, "find(_, 0)", s -> x.find(s, 0), UNKNOWN, NO_SLIPS);
        dueRefusedForAll(x, "find(0, _)", what -> x.find(0, what), OUTSIDE, -1, 4, LEAST, MOST);
        due("UNKNOWN ahead of OUTSIDE", x.find(3, 4), UNKNOWN);
        due("OUTSIDE ahead of NULL", x.find(1, 4), OUTSIDE);
    }

    /** "NULL (either)" */
    static void promise27_missingSlips() {
        CaseWheel x = one("abc");
        dueRefusedForAll(x, "find(0, _): the other", what -> x.find(0, what), NULL, 2, 3);
        dueRefusedForAll(x, "find(1, _): itself", what -> x.find(1, what), NULL, 0, 1, 2, 3);
    }

    /** "in another SLIP, by number (1 .. 3: SLIP what less 1)" */
    static void promise27_inEachSlip() {
        CaseWheel x = withSlip(withSlip(one("a"), 1, "ba"), 2, "bba");
        for (int what = 1; what <= 3; what++) due("find(0, " + what + ")", x.find(0, what), what - 1);
    }

    /** "NONE": longer than what it is looked for in, or not there. */
    static void promise27_none() {
        CaseWheel x = withSlip(one("abc"), 1, "bc");
        due("longer", x.find(0, 2), NONE);
        withSlip(x, 1, "abd");
        due("as long", x.find(0, 2), NONE);
        due("in an empty one", withSlip(x, 2, "").find(0, 3), NONE);
        due("in an empty writing", x.find(0, 0), NONE);
        withSlip(x, 1, "ab");
        due("its end is not there", x.find(0, 2), NONE);
        withSlip(x, 1, "abc");
        x.cut(1, 2, 3);
        due("in what was cut", x.find(0, 2), NONE);
    }

    /** "Where a SLIP stands first": an empty one at 0, in an empty one and an empty writing, too. */
    static void promise27_anEmptyOneStandsAt0() {
        CaseWheel x = withSlip(withSlip(one(""), 1, ""), 2, "abc");
        for (int what = 0; what <= 3; what++) due("find(0, " + what + ")", x.find(0, what), 0);
    }

    /** "Where a SLIP stands first": of several places, and where a begin goes wrong. */
    static void promise27_first() {
        CaseWheel x = withSlip(one("ab"), 1, "abab");
        due("the first of two", x.find(0, 2), 0);
        withSlip(x, 1, "aab");
        due("a begin that goes wrong", x.find(0, 2), 1);
        withSlip(x, 1, FORTY.substring(0, 38).replace('a', 'z') + "ab");
        due("at the end of 40", x.find(0, 2), 38);
        due("in itself", x.find(0, 1), 0);
        withSlip(x, 0, FORTY);
        withSlip(x, 1, FORTY);
        due("40 in 40", x.find(0, 2), 0);
    }

    /** "in THE WRITING (what 0)": at its begin, at its end, at its most. */
    static void promise27_inTheWriting() {
        CaseWheel x = told("judge 1");
        assignAll(x, 20, 3);
        due("at its begin", withSlip(x, 0, "0a3j0.").find(0, 0), 0);
        due("at its end", withSlip(x, 0, "19e3j0.").find(0, 0), 123);
        due("the first of 20", withSlip(x, 0, "j").find(0, 0), 3);
        due("40 letters", withSlip(x, 0, "13d3j0.14e3j0.15a3j0.16b3j0.17c3j0.18d3j").find(0, 0), 81);
        due("beyond the end", withSlip(x, 0, "19e3j0.2").find(0, 0), NONE);
        x.undo();
        due("a case undone", withSlip(x, 0, "19e").find(0, 0), NONE);
    }

    // ---- 28: value

    /** "UNKNOWN; NULL; NUMBER." */
    static void promise28_unknownAndMissingSlips() {
        CaseWheel x = one("1");
        dueRefusedForAll(x, "value", x::value, UNKNOWN, NO_SLIPS);
        dueRefusedForAll(x, "value", x::value, NULL, 1, 2);
    }

    /** "of 1 to 4 digits": one, four, the most, and with 0 ahead. */
    static void promise28_oneToFourDigits() {
        String[] numbers = {"0", "1", "9", "10", "99", "100", "999", "1000", "9999", "00", "0000", "0001", "0417"};
        for (String number : numbers) due(number, one(number).value(0), Integer.parseInt(number));
    }

    /** "NUMBER -14 (it is no whole number as told)": no digit, or five. */
    static void promise28_noneOrFiveDigits() {
        CaseWheel x = new CaseWheel();
        for (String letters : new String[] {"", "00000", "00001", "10000", "99999", "4294967297", "0".repeat(40)}) {
            withSlip(x, 0, letters);
            dueRefused(x, "value of " + letters, () -> x.value(0), NUMBER);
        }
    }

    /** "of 1 to 4 digits alone": another letter first, within, last. */
    static void promise28_digitsAlone() {
        for (String letters : new String[] {"a", "z", ".", ".1", "1.", "1.0", "a1", "1a", "1a1", "12.", "123a", "e1"}) {
            due("value of " + letters, one(letters).value(0), NUMBER);
        }
    }

    // ---- 29: named

    /** "UNKNOWN; NULL." */
    static void promise29_unknownAndMissingSlips() {
        CaseWheel x = one("both");
        dueRefusedForAll(x, "named", x::named, UNKNOWN, NO_SLIPS);
        dueRefusedForAll(x, "named", x::named, NULL, 1, 2);
    }

    /** "its number (0 plain, 1 versed, 2 owing, 3 both)" */
    static void promise29_fourNames() {
        String[] rules = {"plain", "versed", "owing", "both"};
        for (int rule = 0; rule < 4; rule++) due(rules[rule], one(rules[rule]).named(0), rule);
    }

    /** "NONE": an empty one, a letter more, a letter less, another letter, two names. */
    static void promise29_none() {
        due("an empty one", one("").named(0), NONE);
        for (String rule : new String[] {"plain", "versed", "owing", "both"}) {
            due(rule + ", a letter more", one(rule + "s").named(0), NONE);
            due(rule + ", a point more", one(rule + ".").named(0), NONE);
            due(rule + ", a letter ahead", one("a" + rule).named(0), NONE);
            due(rule + ", the last less", one(rule.substring(0, rule.length() - 1)).named(0), NONE);
            due(rule + ", the first less", one(rule.substring(1)).named(0), NONE);
            due(rule + ", another first", one("x" + rule.substring(1)).named(0), NONE);
            due(rule + ", another last", one(rule.substring(0, rule.length() - 1) + "x").named(0), NONE);
            due(rule + ", twice", one(rule + rule).named(0), NONE);
        }
        due("another word", one("wheel").named(0), NONE);
        due("a number", one("0").named(0), NONE);
    }

    // ---- 30: drop

    /** "UNKNOWN; NULL." */
    static void promise30_unknownAndMissingSlips() {
        CaseWheel x = one("abc");
        dueRefusedForAll(x, "drop", x::drop, UNKNOWN, NO_SLIPS);
        dueRefusedForAll(x, "drop", x::drop, NULL, 1, 2);
    }

    /** "how long it was": none, one, 40. */
    static void promise30_howLongItWas() {
        due("an empty one", one("").drop(0), 0);
        due("one letter", one("a").drop(0), 1);
        due("40 letters", one(FORTY).drop(0), 40);
    }

    /** "A SLIP is missing from now on": for every call, and a new one is empty. */
    static void promise30_missingFromNowOn() {
        CaseWheel x = withSlip(one("abc"), 1, "de");
        x.drop(0);
        due("insert", x.insert(0, 0, 'a'), NULL);
        due("cut", x.cut(0, 0, 0), NULL);
        due("join to it", x.join(0, 1), NULL);
        due("join of it", x.join(1, 0), NULL);
        due("letter", x.letter(0, 0), NULL);
        due("find it", x.find(0, 0), NULL);
        due("find in it", x.find(1, 1), NULL);
        due("value", x.value(0), NULL);
        due("named", x.named(0), NULL);
        due("drop", x.drop(0), NULL);
        due("told(8)", x.told(8), 2);
        x.slip(0);
        due("a new one", x.drop(0), 0);
    }
}
