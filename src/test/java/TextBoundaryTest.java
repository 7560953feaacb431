/**
 * Promises 1 to 5, a new object and the text: a test for each sentence of ../shared/DOC.md that names a boundary.
 * Each test bears the number of its promise, and the document's words that it holds the class to.
 */
public final class TextBoundaryTest extends Wheels {
    public static void main(String[] args) throws Exception {
        runBoundaries(TextBoundaryTest.class, 1, 2, 3, 4, 5);
    }

    /** 24 clauses of 143 letters. */
    private static final String MOST_CLAUSES = "wheel;".repeat(23) + "wheel";

    /** The fault of a text that is told behind another one. */
    private static int faultBehind(String earlier, String text) {
        return writeText(told(earlier), text).fault();
    }

    // ---- 1: a new object

    /** "No judges." */
    static void promise01_noJudges() {
        CaseWheel x = new CaseWheel();
        due("told(0)", x.told(0), 0);
        due("judge(0, 0)", x.judge(0, 0), UNKNOWN);
        due("away(0, 1)", x.away(0, 1), UNKNOWN);
        due("weight(0, 0)", x.weight(0, 0), UNKNOWN);
        due("odds(0, 0, 0, 0)", x.odds(0, 0, 0, 0), UNKNOWN);
        due("assign(0, 0)", x.assign(0, 0), NOT);
        due("next(0, 0)", x.next(0, 0), NOT);
    }

    /** "BARRED from PARTIES (a set of 0 .. 9; none at first)" */
    static void promise01_nobodyIsBarredAtFirst() {
        CaseWheel x = told(SIX);
        for (int judge = 0; judge < 6; judge++) due("barred", x.judge(judge, 2), 0);
    }

    /** "with a DEBT (0 at first)" */
    static void promise01_nobodyOwesAtFirst() {
        due("debts", debts(told(SIX)), "0 0 0 0 0 0");
    }

    /** "AWAY or not" */
    static void promise01_nobodyIsAwayAtFirst() {
        due("told(5)", told(SIX).told(5), 0);
    }

    /** "plain (as at first)" */
    static void promise01_ruleIsPlainAtFirst() {
        CaseWheel x = told(THREE);
        due("told(3)", x.told(3), 0);
        x.assign(0, 0);
        due("neither versed nor debt counts", x.weight(0, 0), 3);
    }

    /** "THE SEED is 1 .. 2147483647 (1 at first)" */
    static void promise01_seedIsOneAtFirst() {
        due("told(9)", new CaseWheel().told(9), 1);
        CaseWheel x = told(TWO);
        for (int judge : new int[] {0, 0, 0, 1, 0, 0, 1, 1}) due("drawn by seed 1", x.assign(0, 0), judge);
    }

    /** "CASES 0, 1 .., 20 at most (none at first)" */
    static void promise01_noCasesAtFirst() {
        CaseWheel x = new CaseWheel();
        due("told(1)", x.told(1), 0);
        due("told(4)", x.told(4), 0);
        due("caseOf(0, 0)", x.caseOf(0, 0), UNKNOWN);
        due("refuse(0)", x.refuse(0), UNKNOWN);
        due("writing(0)", x.writing(0), NONE);
        due("seal(1)", x.seal(1), 0);
    }

    /** "SLIPS 0 .. 2 are missing (at first)" */
    static void promise01_slipsAreMissingAtFirst() {
        CaseWheel x = new CaseWheel();
        dueForAll("drop", x::drop, NULL, 0, 1, 2);
        due("told(8)", x.told(8), 0);
    }

    /** "THE TEXT is a row of letters" */
    static void promise01_textIsEmptyAtFirst() {
        CaseWheel x = new CaseWheel();
        due("told(7)", x.told(7), 0);
        due("erase()", x.erase(), 0);
    }

    /** "NOT: none.", "NOT: nothing was kept since the last text." */
    static void promise01_nothingIsKeptOrDoneAtFirst() {
        CaseWheel x = new CaseWheel();
        due("undo()", x.undo(), NOT);
        due("told(6)", x.told(6), 0);
        dueForAll("back", x::back, NOT, 0, 1);
    }

    /** "A new object": what one is told the others don't know. */
    static void promise01_objectsShareNothing() {
        CaseWheel x = new CaseWheel();
        String before = lookAll(x);
        busy();
        due("all", lookAll(x), before);
        due("another new one", lookAll(new CaseWheel()), before);
    }

    // ---- 2: write

    /** "A letter (its number, 0 .. 255)", "OUTSIDE": too small. */
    static void promise02_letterBelow0IsOutside() {
        CaseWheel x = busy();
        dueRefusedForAll(x, "write", x::write, OUTSIDE, -1, -2, -256, LEAST);
    }

    /** "A letter (its number, 0 .. 255)", "OUTSIDE": too large. */
    static void promise02_letterAbove255IsOutside() {
        CaseWheel x = busy();
        dueRefusedForAll(x, "write", x::write, OUTSIDE, 256, 256 + 'a', 65536, MOST);
    }

    /** "A letter (its number, 0 .. 255) more of THE TEXT: how many it has." */
    static void promise02_letters0To255AreTaken() {
        CaseWheel x = new CaseWheel();
        for (int letter = 0; letter < 200; letter++) due("write(" + letter + ")", x.write(letter), letter + 1);
        x.erase();
        for (int letter = 200; letter < 256; letter++) due("write(" + letter + ")", x.write(letter), letter - 199);
    }

    /** "THE TEXT is a row of letters, 200 at most", "FULL" */
    static void promise02_fullAt200() {
        CaseWheel x = writeText(new CaseWheel(), "a".repeat(199));
        due("letter 200", x.write(' '), 200);
        dueRefusedForAll(x, "letter 201", x::write, FULL, 'a', 0, 255);
        due("told(7)", x.told(7), 200);
    }

    /** "OUTSIDE; FULL.": the first of these that fits. */
    static void promise02_outsideAheadOfFull() {
        CaseWheel x = writeText(new CaseWheel(), "a".repeat(200));
        dueForAll("write", x::write, OUTSIDE, -1, 256);
    }

    /** "Refused, and nothing changes": no refused letter comes to the text. */
    static void promise02_refusedLetterIsNotRead() {
        CaseWheel x = writeText(new CaseWheel(), "wheel");
        x.write(256 + 's');
        x.write(-1);
        due("fault()", x.fault(), NONE);
        CaseWheel y = writeText(new CaseWheel(), " ".repeat(195) + "wheel");
        y.write('s');
        due("wheel()", y.wheel(), 1);
    }

    /** "THE TEXT is a row of letters, 200 at most": an emptied text has room again. */
    static void promise02_roomAgainBehindEraseAndWheel() {
        CaseWheel x = writeText(new CaseWheel(), "wheel" + " ".repeat(195));
        due("full", x.write('a'), FULL);
        x.wheel();
        due("behind wheel()", x.write('a'), 1);
        writeText(x, "b".repeat(199));
        due("full again", x.write('c'), FULL);
        x.erase();
        due("behind erase()", x.write('a'), 1);
    }

    // ---- 3: erase

    /** "THE TEXT is empty: how many letters it had.": none. */
    static void promise03_eraseOfAnEmptyText() {
        CaseWheel x = new CaseWheel();
        due("erase()", x.erase(), 0);
        writeText(x, "abc").erase();
        due("erase() again", x.erase(), 0);
    }

    /** "THE TEXT is empty: how many letters it had.": 200. */
    static void promise03_eraseOfAFullText() {
        CaseWheel x = writeText(new CaseWheel(), "a".repeat(201));
        due("erase()", x.erase(), 200);
        due("told(7)", x.told(7), 0);
        due("fault()", x.fault(), 0);
    }

    /** "THE TEXT is empty": and nothing else changes. */
    static void promise03_eraseLeavesTheWheel() {
        CaseWheel x = busy();
        x.keep(1);
        String before = look(x);
        x.erase();
        due("all but the text", look(x), before);
        due("told(6)", x.told(6), 6);
        due("told(8)", x.told(8), 10);
        due("back(1)", x.back(1), 4);
    }

    // ---- 4: fault

    /** "or at the end, if it comes too soon", "or the length": an empty text, and blanks alone. */
    static void promise04_emptyTextEndsTooSoon() {
        due("nothing", faultOf(""), 0);
        due("a blank", faultOf(" "), 1);
        due("200 blanks", faultOf(" ".repeat(200)), 200);
    }

    /** "NONE.": a text without a fault. */
    static void promise04_noneWithoutAFault() {
        for (String text : new String[] {"wheel", "judge 1", "judge 1 a", "rule plain", MOST_CLAUSES}) {
            due(text, faultOf(text), NONE);
        }
    }

    /** "The place of the FAULT": a look, that changes nothing. */
    static void promise04_faultChangesNothing() {
        CaseWheel x = told(TWO);
        x.assign(0, 0);
        writeText(x, "judge 9;away 0;bar 0 0;rule both");
        String before = lookAll(x);
        due("fault()", x.fault(), NONE);
        due("all", lookAll(x), before);
        writeText(x, ";wheel;away 0");
        due("fault() of a fault", x.fault(), 44);
        due("all but the text", look(x) + x.told(7), before.substring(0, look(x).length()) + 45);
    }

    /** "6 at most", "a seventh cannot stand there (at its word)" */
    static void promise04_seventhJudgeAtItsWord() {
        due("six", faultOf(SIX), NONE);
        due("seven", faultOf(SIX + ";judge 9"), 48);
        due("seven, blanks ahead of the word", faultOf(SIX + ";  judge 9"), 50);
        due("seven, a fault behind the word too", faultOf(SIX + ";judge 0 f"), 48);
        due("seven, the end behind the word", faultOf(SIX + ";judge"), 48);
        due("six of an earlier text", faultBehind(SIX, "judge 1"), 0);
        due("five of an earlier text", faultBehind(SIX.substring(8), "judge 1;judge 1"), 8);
        due("six, and other clauses behind", faultOf(SIX + ";away 5;bar 5 9;rule both"), NONE);
    }

    /** "wheel: all as at first": there is room for six judges again. */
    static void promise04_wheelMakesRoomForSix() {
        due("six, wheel, six", faultOf(SIX + ";wheel;" + SIX), NONE);
        due("six, wheel, seven", faultOf(SIX + ";wheel;" + SIX + ";judge 1"), 102);
        due("six of an earlier text", faultBehind(SIX, "wheel;" + SIX), NONE);
    }

    /** "each of a STRENGTH (1 ..", "9)": a number out of its bounds. */
    static void promise04_strengthIs1To9() {
        for (int strength = 1; strength <= 9; strength++) due("strength", faultOf("judge " + strength), NONE);
        due("0", faultOf("judge 0"), 6);
        due("00", faultOf("judge 00"), 6);
        due("10", faultOf("judge 10"), 6);
        due("99", faultOf("judge 99"), 6);
        due("0, blanks ahead", faultOf("judge   0"), 8);
    }

    /** "numbers of 1 or 2 digits": two digits. */
    static void promise04_twoDigitsStand() {
        due("strength 09", faultOf("judge 09"), NONE);
        due("bar 00 09", faultOf("judge 1;bar 00 09"), NONE);
        due("away 00", faultOf("judge 1;away 00"), NONE);
    }

    /** "of more digits, also": whatever number they make. */
    static void promise04_threeDigitsAreAFault() {
        due("strength 001", faultOf("judge 001"), 6);
        due("strength 4294967297", faultOf("judge 4294967297"), 6);
        due("strength of 194 digits", faultOf("judge " + "0".repeat(193) + "1"), 6);
        due("bar 000 0", faultOf("judge 1;bar 000 0"), 12);
        due("bar 0 000", faultOf("judge 1;bar 0 000"), 14);
        due("bar 0 4294967296", faultOf("judge 1;bar 0 4294967296"), 14);
        due("away 000", faultOf("judge 1;away 000"), 13);
        due("away 4294967296", faultOf("judge 1;away 4294967296"), 13);
    }

    /** "a word of one to five unlike letters a .. e": one, and five, in any order. */
    static void promise04_versedInOneToFive() {
        for (String word : new String[] {"a", "b", "c", "d", "e", "ea", "abcde", "edcba", "caebd"}) {
            due(word, faultOf("judge 1 " + word), NONE);
        }
        due("six letters", faultOf("judge 1 abcdea"), 8);
        due("six letters, f", faultOf("judge 1 abcdef"), 8);
    }

    /** "a word of one to five unlike letters a .. e": a letter twice. */
    static void promise04_versedLettersAreUnlike() {
        for (String word : new String[] {"aa", "ee", "aba", "abcda", "bcdee"}) {
            due(word, faultOf("judge 1 " + word), 8);
        }
    }

    /** "a word of one to five unlike letters a .. e": letters beyond e. */
    static void promise04_versedLettersAreAToE() {
        for (String word : new String[] {"f", "z", "af", "fa", "abcdf", "wheel"}) {
            due(word, faultOf("judge 1 " + word), 8);
        }
        due("a capital", faultOf("judge 1 A"), 8);
        due("a capital behind", faultOf("judge 1 aB"), 9);
        due("below a", faultOf("judge 1 `"), 8);
        due("beyond z", faultOf("judge 1 {"), 8);
    }

    /** "or in nothing, if there is none": the word may be missing. */
    static void promise04_versedInNothing() {
        due("the end", faultOf("judge 1"), NONE);
        due("blanks, the end", faultOf("judge 1   "), NONE);
        due("a clause behind", faultOf("judge 1;judge 1"), NONE);
        due("a number instead", faultOf("judge 1 2"), 8);
        due("a number behind the word", faultOf("judge 1 a 2"), 10);
        due("a second word", faultOf("judge 1 a b"), 10);
    }

    /** "bar: JUDGE J, told ahead": none beyond the last. */
    static void promise04_barOfAJudgeToldAhead() {
        due("none told", faultOf("bar 0 0"), 4);
        due("the last", faultOf(TWO + ";bar 1 0"), NONE);
        due("one beyond", faultOf(TWO + ";bar 2 0"), 20);
        due("99", faultOf(TWO + ";bar 99 0"), 20);
        due("the sixth", faultOf(SIX + ";bar 5 0"), NONE);
        due("a seventh", faultOf(SIX + ";bar 6 0"), 52);
        due("told behind", faultOf("judge 1;bar 1 0;judge 1"), 12);
        due("told by an earlier text", faultBehind(TWO, "bar 1 0"), NONE);
        due("gone with wheel", faultBehind(TWO, "wheel;judge 1;bar 1 0"), 18);
    }

    /** "is BARRED from PARTY P, 0 to 9" */
    static void promise04_barFromParties0To9() {
        for (int party = 0; party <= 9; party++) due("party", faultOf("judge 1;bar 0 " + party), NONE);
        due("10", faultOf("judge 1;bar 0 10"), 14);
        due("99", faultOf("judge 1;bar 0 99"), 14);
        due("minus", faultOf("judge 1;bar 0 -1"), 14);
        due("twice the same", faultOf("judge 1;bar 0 3;bar 0 3"), NONE);
    }

    /** "away: JUDGE J is AWAY": none beyond the last. */
    static void promise04_awayOfAJudgeToldAhead() {
        due("none told", faultOf("away 0"), 5);
        due("the last", faultOf(TWO + ";away 1"), NONE);
        due("one beyond", faultOf(TWO + ";away 2"), 21);
        due("told behind", faultOf("judge 1;away 1;judge 1"), 13);
        due("told by an earlier text", faultBehind(TWO, "away 1"), NONE);
        due("gone with wheel", faultBehind(TWO, "wheel;judge 1;away 1"), 19);
    }

    /** "too, if so already" */
    static void promise04_awayIfSoAlready() {
        due("twice", faultOf("judge 1;away 0;away 0"), NONE);
        due("by an earlier text", faultBehind("judge 1;away 0", "away 0"), NONE);
        CaseWheel x = told("judge 1");
        x.away(0, 1);
        due("by away()", writeText(x, "away 0").fault(), NONE);
    }

    /** "rule: a NAME": one of the four, and no more or fewer letters. */
    static void promise04_ruleHasAName() {
        for (String name : new String[] {"plain", "versed", "owing", "both"}) {
            due(name, faultOf("rule " + name), NONE);
            due(name + "s", faultOf("rule " + name + "s"), 5);
            due(name + ", cut", faultOf("rule " + name.substring(1)), 5);
            due(name + ", ended", faultOf("rule " + name.substring(0, name.length() - 1)), 5);
        }
        due("a number", faultOf("rule 0"), 5);
        due("another word", faultOf("rule wheel"), 5);
        due("two names", faultOf("rule both plain"), 10);
    }

    /** "each is one of: wheel. judge W. judge W L. bar J P. away J. rule N.": other words. */
    static void promise04_clausesBeginWithTheirWords() {
        for (String word : new String[] {"whee", "wheels", "judg", "judges", "ba", "bars", "awa", "aways", "rul",
            "rules", "plain", "a", "1", ".", ";", "Wheel", "WHEEL"}) {
            due(word, faultOf(word), 0);
            due(word + ", second", faultOf("wheel;" + word), 6);
        }
    }

    /** "As written here, without points" */
    static void promise04_noPoints() {
        due("wheel.", faultOf("wheel."), 5);
        due("judge 1.", faultOf("judge 1."), 7);
        due("rule both.", faultOf("rule both."), 9);
    }

    /** "CLAUSES with ; between, 24 at most" */
    static void promise04_clauses24AtMost() {
        due("24", faultOf(MOST_CLAUSES), NONE);
        due("25", faultOf(MOST_CLAUSES + ";wheel"), 143);
        due("25, blanks around ;", faultOf(MOST_CLAUSES + "  ; wheel"), 145);
        due("24, a word behind", faultOf(MOST_CLAUSES + " wheel"), 144);
        due("24, blanks behind", faultOf(MOST_CLAUSES + "   "), NONE);
        due("24 behind 24", faultBehind(MOST_CLAUSES, MOST_CLAUSES), NONE);
    }

    /** "CLAUSES with ; between": none ahead of the first, behind the last, two at once, none at all. */
    static void promise04_semicolonsStandBetween() {
        due("first", faultOf(";wheel"), 0);
        due("last", faultOf("wheel;"), 6);
        due("last, a blank", faultOf("wheel; "), 7);
        due("two", faultOf("wheel;;wheel"), 6);
        due("none", faultOf("wheel wheel"), 6);
        due("another sign", faultOf("wheel:wheel"), 5);
        due("in a clause", faultOf("judge;1"), 5);
    }

    /** "or at the end, if it comes too soon": in each clause. */
    static void promise04_endComesTooSoon() {
        due("judge", faultOf("judge"), 5);
        due("judge, blanks", faultOf("judge  "), 7);
        due("bar", faultOf("judge 1;bar"), 11);
        due("bar 0", faultOf("judge 1;bar 0"), 13);
        due("bar 0, a blank", faultOf("judge 1;bar 0 "), 14);
        due("away", faultOf("judge 1;away"), 12);
        due("rule", faultOf("rule"), 4);
        due("the last of 200 letters", faultOf(" ".repeat(195) + "judge"), 200);
    }

    /** "the letter with which the TOKEN begins": a row of small letters, of digits, any other letter alone. */
    static void promise04_tokensAreRows() {
        due("a longer row of letters", faultOf("wheelwheel"), 0);
        due("letters behind letters", faultOf("judge 1 abz"), 8);
        due("digits behind letters are another token", faultOf("wheel1"), 5);
        due("letters behind digits are another token", faultOf("judge 1abc"), NONE);
        due("other letters are one token each", faultOf("judge 1;;"), 8);
        due("a capital is no small letter", faultOf("wheelS"), 5);
        due("letters beyond 127", faultOf("wheel" + (char) 228), 5);
        due("letter 0", faultOf("wheel" + (char) 0), 5);
        due("letter 255", faultOf((char) 255 + "wheel"), 0);
        due("below 0", faultOf("judge /"), 6);
        due("beyond 9", faultOf("judge :"), 6);
    }

    /** "blanks between": of any number, but nothing else is one. */
    static void promise04_blanksBetween() {
        due("many", faultOf("   judge    1    ab   ;   bar   0   9   "), NONE);
        due("a digit behind a blank is a number more", faultOf("judge 0 9"), 6);
        due("two numbers want one", faultOf("judge 1;bar 00"), 14);
        for (int letter : new int[] {0, 9, 10, 13, 95, 160}) {
            due("letter " + letter, faultOf("judge" + (char) letter + "1"), 5);
        }
    }

    /** "A FAULT is at the first TOKEN": of several. */
    static void promise04_firstOfSeveralFaults() {
        due("two in a clause", faultOf("judge 0 ff"), 6);
        due("two clauses", faultOf("judge 1 f;judge 0"), 8);
        due("one at the end, too", faultOf("judge 1 2;judge"), 8);
    }

    /** "THE TEXT is a row of letters, 200 at most": the last letter is read. */
    static void promise04_the200thLetterIsRead() {
        due("blank", faultOf("wheel" + " ".repeat(195)), NONE);
        due("a point", faultOf("wheel" + " ".repeat(194) + "."), 199);
        due("a digit", faultOf("judge" + " ".repeat(194) + "1"), NONE);
        due("a digit too many", faultOf("judge" + " ".repeat(192) + "001"), 197);
        due("a word's end", faultOf(" ".repeat(195) + "wheel"), NONE);
        due("a ;", faultOf(" ".repeat(194) + "wheel;"), 200);
    }

    /** "THE TEXT": only what it has now is read. */
    static void promise04_nothingErasedIsRead() {
        CaseWheel x = writeText(new CaseWheel(), "judge 12;wheels");
        x.erase();
        due("a number", writeText(x, "judge 1").fault(), NONE);
        x.erase();
        writeText(x, "rule boths").erase();
        due("a name", writeText(x, "rule both").fault(), NONE);
    }

    // ---- 5: wheel

    /** "NOT: it has a FAULT.": an empty text has one. */
    static void promise05_notOfAnEmptyText() {
        CaseWheel x = busy();
        x.erase();
        dueRefused(x, "wheel()", x::wheel, NOT);
    }

    /** "NOT: it has a FAULT.": and nothing changes, though clauses ahead of it could be done. */
    static void promise05_notOfAFault() {
        CaseWheel x = busy();
        x.keep(0);
        x.erase();
        writeText(x, "wheel;judge 9;rule plain;away 0;judge 0");
        dueRefused(x, "wheel()", x::wheel, NOT);
        due("what is kept stays", x.back(0), 4);
        x.erase();
        writeText(x, "rule owing");
        due("the next text", x.wheel(), 1);
        due("judges of the faulty one are unknown", x.told(0), 3);
        due("so is who was away in it", x.told(5), 0);
    }

    /** "THE TEXT's CLAUSES are done, and it is empty then: how many there were.": 1 and 24. */
    static void promise05_howManyThereWere() {
        CaseWheel x = writeText(new CaseWheel(), "wheel");
        due("1", x.wheel(), 1);
        due("told(7)", x.told(7), 0);
        due("wheel() of the emptied text", x.wheel(), NOT);
        due("24", writeText(x, MOST_CLAUSES).wheel(), 24);
        due("2 behind 24", writeText(x, TWO).wheel(), 2);
    }

    /** "CLAUSES are done in their order." */
    static void promise05_clausesInTheirOrder() {
        due("the later rule", told("rule both;rule owing").told(3), 2);
        due("wheel last", told("judge 1;rule both;wheel").told(0), 0);
        due("wheel first", told("wheel;judge 1;rule both").told(0), 1);
        CaseWheel x = told("judge 1 a;judge 2 b;judge 3 c;judge 4 d;judge 5 e;judge 6");
        for (int judge = 0; judge < 6; judge++) due("strength", x.judge(judge, 0), judge + 1);
        for (int judge = 0; judge < 6; judge++) due("versed", x.judge(judge, 1), judge < 5 ? 1 << judge : 0);
    }

    /** "wheel: all as at first": nothing of what was told ahead is left. */
    static void promise05_wheelClauseForgetsAll() {
        String all = "judge 9 abcde;bar 0 3;away 0;rule both;wheel";
        due("in one text", look(told(all)), look(new CaseWheel()));
        CaseWheel x = busy();
        x.erase();
        writeText(x, "wheel").wheel();
        due("of earlier texts", lookAll(x), lookAll(new CaseWheel()));
        due("the next judge 0", look(told(all + ";judge 1")), look(told("judge 1")));
    }

    /** "too, if so already": told twice, in one text or in two, it is so still; the same with bar. */
    static void promise05_awayAndBarredIfSoAlready() {
        CaseWheel x = told("judge 1;away 0;bar 0 3;away 0;bar 0 3");
        due("away", x.told(5), 1);
        due("barred", x.judge(0, 2), 8);
        writeText(x, "bar 0 3;away 0").wheel();
        due("away, by a later text", x.told(5), 1);
        due("barred, by a later text", x.judge(0, 2), 8);
    }

    /** "what earlier texts told stays as it was told" */
    static void promise05_earlierTextsStay() {
        CaseWheel x = told("judge 1 a");
        writeText(x, "bar 0 7").wheel();
        writeText(x, "away 0;judge 2").wheel();
        writeText(x, "rule owing").wheel();
        writeText(x, "bar 1 0").wheel();
        due("all", look(x), look(told("judge 1 a;judge 2;bar 0 7;bar 1 0;away 0;rule owing")));
    }

    /** "Behind them all is as told": whom away() sent or called back. */
    static void promise05_awayIsAsTold() {
        CaseWheel x = told(THREE + ";away 2");
        x.away(2, 0);
        x.away(0, 1);
        writeText(x, "rule plain").wheel();
        due("told(5)", x.told(5), 4);
    }

    /** "Behind them all is as told": whom refuse() barred. */
    static void promise05_barredIsAsTold() {
        CaseWheel x = told(TWO + ";bar 1 3");
        x.assign(0, 0);
        x.refuse(0);
        due("barred by refuse()", x.judge(0, 2), 1);
        writeText(x, "rule plain").wheel();
        due("judge 0", x.judge(0, 2), 0);
        due("judge 1", x.judge(1, 2), 8);
    }

    /** "no DEBT" */
    static void promise05_noDebtBehind() {
        CaseWheel x = told(THREE);
        x.assign(0, 0);
        writeText(x, "rule owing").wheel();
        due("debts", debts(x), "0 0 0");
    }

    /** "THE SEED is 1": and the chain is at its begin. */
    static void promise05_seedIsOneBehind() {
        CaseWheel x = sealed(TWO, MOST);
        x.assign(0, 0);
        writeText(x, "rule plain").wheel();
        due("told(9)", x.told(9), 1);
        due("told(2)", x.told(2), 0);
        for (int judge : new int[] {0, 0, 0, 1, 0, 0, 1, 1}) due("drawn by seed 1", x.assign(0, 0), judge);
    }

    /** "THE DOCKET has no CASES": though it was full. */
    static void promise05_noCasesBehind() {
        CaseWheel x = told(TWO);
        assignAll(x, 20, 0);
        writeText(x, "rule plain").wheel();
        due("told(1)", x.told(1), 0);
        due("told(4)", x.told(4), 0);
        due("caseOf(0, 0)", x.caseOf(0, 0), UNKNOWN);
        due("judge(0, 5)", x.judge(0, 5), 0);
        due("assign(0, 0)", x.assign(0, 0), 0);
    }

    /** "nothing is kept or can be undone" */
    static void promise05_nothingKeptOrUndoneBehind() {
        CaseWheel x = told(TWO);
        assignAll(x, 9, 0);
        x.keep(0);
        x.keep(1);
        writeText(x, "rule plain").wheel();
        due("told(6)", x.told(6), 0);
        due("undo()", x.undo(), NOT);
        dueForAll("back", x::back, NOT, 0, 1);
    }

    /** "SLIPS are all missing" */
    static void promise05_slipsAreMissingBehind() {
        CaseWheel x = told(TWO);
        withSlip(withSlip(withSlip(x, 0, "a"), 1, ""), 2, "b".repeat(40));
        writeText(x, "rule plain").wheel();
        dueForAll("drop", x::drop, NULL, 0, 1, 2);
        due("told(8)", x.told(8), 0);
    }
}
