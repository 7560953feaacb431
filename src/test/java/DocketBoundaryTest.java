/**
 * Promises 6 to 14, judges, cases and what is done: a test for each sentence of ../shared/DOC.md that names a boundary.
 * Each test bears the number of its promise, and the document's words that it holds the class to.
 */
public final class DocketBoundaryTest extends Wheels {
    public static void main(String[] args) throws Exception {
        runBoundaries(DocketBoundaryTest.class, 6, 7, 8, 9, 10, 11, 12, 13, 14);
    }

    /** Party 0 is judge 0's alone, party 1 is judge 1's alone; all are of strength 9. */
    private static final String ALONE = SIX
        + ";bar 1 0;bar 2 0;bar 3 0;bar 4 0;bar 5 0;bar 0 1;bar 2 1;bar 3 1;bar 4 1;bar 5 1";
    // The first turn, halved: of seed HALF[i] it is i (no seed has 0), of LATE[i] it is 2147483638 and i more.
    private static final int[] HALF = {
        0, 400461691, 744698252, 1002290935, 1327033443, 1489396504, 1669062127, 1956991636, 2069549716, 1820614127};
    private static final int[] LATE = {
        854106376, 624307827, 717860467, 1024925960, 111845375, 292819076, 1708212752, 1913638251, 1236431772,
        1584200935};

    private static void dueTurns(String text, int seed, int want) {
        CaseWheel x = sealed(text, seed);
        x.assign(0, 0);
        due("turns by seed " + seed, x.told(2), want);
    }

    // ---- 6: judge

    /** "UNKNOWN (no such JUDGE": below 0, and beyond the last one. */
    static void promise06_unknownJudge() {
        CaseWheel x = busy();
        dueRefusedForAll(x, "judge(_, 0)", j -> x.judge(j, 0), UNKNOWN, -1, 3, 5, 6, 7, 32, LEAST, MOST);
        CaseWheel y = told(SIX);
        due("the sixth", y.judge(5, 0), 9);
        dueForAll("beyond six", j -> y.judge(j, 0), UNKNOWN, 6, -1);
        writeText(y, "wheel;judge 1").wheel();
        due("one that was", y.judge(1, 0), UNKNOWN);
    }

    /** "OUTSIDE": what is 0 to 5. */
    static void promise06_outsideWhat() {
        CaseWheel x = busy();
        dueRefusedForAll(x, "judge(0, _)", what -> x.judge(0, what), OUTSIDE, -1, 6, LEAST, MOST);
    }

    /** "UNKNOWN; OUTSIDE.": the first of these that fits. */
    static void promise06_unknownAheadOfOutside() {
        CaseWheel x = told(TWO);
        due("judge(2, 6)", x.judge(2, 6), UNKNOWN);
        due("judge(-1, -1)", x.judge(-1, -1), UNKNOWN);
    }

    /** "STRENGTH (what 0), VERSED (1, bits), BARRED (2, bits), 1 AWAY (3)": least and most of each. */
    static void promise06_leastAndMostOfWhatIsTold() {
        StringBuilder text = new StringBuilder("judge 1;judge 9 abcde;away 1");
        for (int party = 0; party < 10; party++) text.append(";bar 1 ").append(party);
        CaseWheel x = told(text.toString());
        int[] least = {1, 0, 0, 0, 100, 0}, most = {9, 31, 1023, 1, 100, 0};
        for (int what = 0; what < 6; what++) {
            due("judge(0, " + what + ")", x.judge(0, what), least[what]);
            due("judge(1, " + what + ")", x.judge(1, what), most[what]);
        }
    }

    /** "DEBT and 100 (4)": with "DEBT is -99 at least, 99 at most". */
    static void promise06_debtAnd100() {
        CaseWheel x = told(ALONE);
        assignAll(x, 20, 0);
        due("-99", x.judge(0, 4), 1);
        due("99", x.judge(1, 4), 199);
    }

    /** "how many CASES (5)": none, all 20, and as refused. */
    static void promise06_howManyCases() {
        CaseWheel x = told(TWO + ";bar 0 0");
        assignAll(x, 20, 0);
        due("none", x.judge(0, 5), 0);
        due("all", x.judge(1, 5), 20);
        CaseWheel y = told(TWO);
        y.assign(0, 0);
        y.refuse(0);
        due("who refused", y.judge(0, 5), 0);
        due("who has it then", y.judge(1, 5), 1);
    }

    // ---- 7: caseOf

    /** "UNKNOWN (no such JUDGE, CASE": below 0, and beyond the last one. */
    static void promise07_unknownCase() {
        CaseWheel x = busy();
        dueRefusedForAll(x, "caseOf(_, 0)", c -> x.caseOf(c, 0), UNKNOWN, -1, 4, 19, 20, LEAST, MOST);
        CaseWheel y = told(TWO);
        assignAll(y, 20, 3);
        due("the last of 20", y.caseOf(19, 1), 3);
        due("beyond 20", y.caseOf(20, 1), UNKNOWN);
        y.undo();
        due("one undone", y.caseOf(19, 1), UNKNOWN);
        y.seal(1);
        due("one ahead of seal()", y.caseOf(0, 1), UNKNOWN);
    }

    /** "OUTSIDE": what is 0 to 2. */
    static void promise07_outsideWhat() {
        CaseWheel x = busy();
        dueRefusedForAll(x, "caseOf(0, _)", what -> x.caseOf(0, what), OUTSIDE, -1, 3, LEAST, MOST);
    }

    /** "UNKNOWN; OUTSIDE.": the first of these that fits. */
    static void promise07_unknownAheadOfOutside() {
        due("caseOf(0, 3)", told(TWO).caseOf(0, 3), UNKNOWN);
        due("caseOf(-1, -1)", told(TWO).caseOf(-1, -1), UNKNOWN);
    }

    /** "SUBJECT (what 0), PARTY (1), JUDGE (2)": least and most of each. */
    static void promise07_leastAndMost() {
        CaseWheel x = told(SIX + ";bar 0 9;bar 1 9;bar 2 9;bar 3 9;bar 4 9;bar 1 0;bar 2 0;bar 3 0;bar 4 0;bar 5 0");
        x.assign(0, 0);
        x.assign(4, 9);
        int[] most = {4, 9, 5};
        for (int what = 0; what < 3; what++) {
            due("caseOf(0, " + what + ")", x.caseOf(0, what), 0);
            due("caseOf(1, " + what + ")", x.caseOf(1, what), most[what]);
        }
    }

    // ---- 8: seal

    /** "THE SEED is 1 .. 2147483647", "OUTSIDE" */
    static void promise08_outsideSeeds() {
        CaseWheel x = busy();
        dueRefusedForAll(x, "seal", x::seal, OUTSIDE, 0, -1, -MOST, LEAST);
    }

    /** "THE SEED is 1 .. 2147483647": both ends. */
    static void promise08_leastAndMostSeed() {
        CaseWheel x = told(TWO);
        due("seal(2147483647)", x.seal(MOST), 0);
        due("told(9)", x.told(9), MOST);
        due("1074122767 by 2 leaves 1", x.assign(0, 0), 1);
        due("seal(1)", x.seal(1), 1);
        due("told(9)", x.told(9), 1);
        due("135184 by 2 leaves 0", x.assign(0, 0), 0);
    }

    /** "SEALED by a SEED: how many CASES there were.": none, and 20. */
    static void promise08_howManyThereWere() {
        CaseWheel x = told(TWO);
        due("none", x.seal(3), 0);
        assignAll(x, 20, 0);
        due("20", x.seal(3), 20);
        due("none again", x.seal(3), 0);
    }

    /** "THE CHAIN is that, TURNS are 0": by the same seed, too. */
    static void promise08_chainBeginsAgain() {
        CaseWheel x = sealed(TWO, 1);
        for (int time = 0; time < 2; time++) {
            for (int judge : new int[] {0, 0, 0, 1, 0, 0, 1, 1}) due("drawn", x.assign(0, 0), judge);
            due("told(2)", x.told(2), 8);
            x.seal(1);
            due("told(2) behind", x.told(2), 0);
        }
    }

    /** "THE DOCKET has no CASES, no DEBT" */
    static void promise08_noCasesNoDebt() {
        CaseWheel x = told(ALONE);
        assignAll(x, 20, 0);
        x.seal(7);
        due("told(1)", x.told(1), 0);
        due("told(4)", x.told(4), 0);
        due("debts", debts(x), "0 0 0 0 0 0");
        due("a case again", x.assign(0, 0), 0);
    }

    /** "the last 8 can be; none behind seal()" */
    static void promise08_nothingCanBeUndoneBehind() {
        CaseWheel x = told(TWO);
        assignAll(x, 9, 0);
        x.seal(7);
        due("told(6)", x.told(6), 0);
        due("undo()", x.undo(), NOT);
        x.assign(0, 0);
        due("undo() of a later one", x.undo(), 0);
        due("undo() of none", x.undo(), NOT);
    }

    /** "SEALED: THE SEED is another one": who is away or barred is so still, and the rule stands. */
    static void promise08_judgesStay() {
        CaseWheel x = told(THREE + ";bar 1 4;rule both");
        x.assign(0, 0);
        x.refuse(0);
        x.away(0, 1);
        x.seal(7);
        due("barred by the text and by refuse()", x.judge(1, 2), 17);
        due("away", x.told(5), 1);
        due("rule", x.told(3), 3);
    }

    // ---- 9: assign

    /** "OUTSIDE: SUBJECT 0 .. 4" */
    static void promise09_outsideSubjects() {
        CaseWheel x = busy();
        dueRefusedForAll(x, "assign(_, 0)", s -> x.assign(s, 0), OUTSIDE, -1, 5, LEAST, MOST);
    }

    /** "PARTY 0 .. 9" */
    static void promise09_outsideParties() {
        CaseWheel x = busy();
        dueRefusedForAll(x, "assign(0, _)", p -> x.assign(0, p), OUTSIDE, -1, 10, 32, LEAST, MOST);
    }

    /** "OUTSIDE: SUBJECT 0 .. 4, PARTY 0 .. 9": all within. */
    static void promise09_subjectsAndPartiesWithin() {
        CaseWheel x = told("judge 1");
        for (int i = 0; i < 20; i++) due("assign", x.assign(i % 5, i % 10), 0);
    }

    /** "NOT: all are AWAY or BARRED from it": no judges at all. */
    static void promise09_notWithoutJudges() {
        CaseWheel x = new CaseWheel();
        dueRefused(x, "assign(0, 0)", () -> x.assign(0, 0), NOT);
    }

    /** "NOT: all are AWAY or BARRED from it" */
    static void promise09_notIfAllAreAwayOrBarred() {
        CaseWheel away = told(TWO + ";away 0;away 1");
        dueRefused(away, "all away", () -> away.assign(0, 0), NOT);
        CaseWheel barred = told(TWO + ";bar 0 9;bar 1 9");
        dueRefused(barred, "all barred", () -> barred.assign(0, 9), NOT);
        due("of another party", barred.assign(0, 8), 0);
        CaseWheel each = told(TWO + ";bar 0 9;away 1");
        dueRefused(each, "one barred, one away", () -> each.assign(0, 9), NOT);
        CaseWheel both = told("judge 1;bar 0 9;away 0");
        dueRefused(both, "one both", () -> both.assign(0, 9), NOT);
        CaseWheel refused = told(TWO);
        refused.assign(0, 4);
        refused.refuse(0);
        refused.away(1, 1);
        dueRefused(refused, "one refused, one away", () -> refused.assign(0, 4), NOT);
    }

    /** "NOT: all are AWAY or BARRED from it": one is enough, first or last. */
    static void promise09_oneIsEnough() {
        due("the first", told(ALONE).assign(0, 0), 0);
        due("the last", told(SIX + ";away 0;away 1;away 2;away 3;away 4").assign(0, 0), 5);
    }

    /** "FULL: 20." */
    static void promise09_fullAt20() {
        CaseWheel x = told(TWO);
        assignAll(x, 19, 0);
        due("the 20th", x.assign(0, 0) >= 0, true);
        dueRefused(x, "the 21st", () -> x.assign(0, 0), FULL);
        due("told(1)", x.told(1), 20);
        x.undo();
        due("room again behind undo()", x.assign(0, 0) >= 0, true);
    }

    /** "OUTSIDE", "NOT", "FULL": the first of these that fits. */
    static void promise09_orderOfRefusals() {
        CaseWheel x = told("judge 1;bar 0 9");
        due("OUTSIDE ahead of NOT", x.assign(5, 9), OUTSIDE);
        assignAll(x, 20, 0);
        due("OUTSIDE ahead of FULL", x.assign(0, 10), OUTSIDE);
        due("NOT ahead of FULL", x.assign(0, 9), NOT);
        due("FULL", x.assign(0, 0), FULL);
    }

    /** "if r is not below n times as much as 2147483648 by n (cut) is, this is thrown away" */
    static void promise09_beyondTheLastWholeRound() {
        dueTurns(THREE, LATE[1], 1);
        for (int i = 2; i < 10; i++) dueTurns(THREE, LATE[i], 2);
        String weight3 = "judge 1;judge 2";
        dueTurns(weight3, LATE[7], 1);
        dueTurns(weight3, LATE[8], 2);
        dueTurns(weight3, LATE[9], 2);
        due("2147483639 by 10 leaves 9", sealed(THREE, LATE[1]).assign(0, 0), 2);
        due("2147483645 by 3 leaves 2", sealed(weight3, LATE[7]).assign(0, 0), 1);
    }

    /** "n times as much as 2147483648 by n (cut)": nothing is beyond it for 1, 2, 16. */
    static void promise09_wholeRoundsWithoutARest() {
        for (String text : new String[] {"judge 1", TWO, "judge 8;judge 8"}) dueTurns(text, LATE[9], 1);
        due("2147483647 by 2 leaves 1", sealed(TWO, LATE[9]).assign(0, 0), 1);
        due("2147483647 by 16 leaves 15", sealed("judge 8;judge 8", LATE[9]).assign(0, 0), 1);
    }

    /** "are more than what was DRAWN": equal is not more. */
    static void promise09_weightsAreMoreThanDrawn() {
        int[] judges = {0, 0, 0, 1, 1, 1, 1, 1, 2, 2};
        for (int drawn = 1; drawn < 10; drawn++) {
            due("drawn " + drawn, sealed(THREE, HALF[drawn]).assign(0, 0), judges[drawn]);
        }
        CaseWheel x = told(THREE);
        x.assign(0, 0);
        x.assign(0, 0);
        due("drawn 0", x.assign(0, 0), 0);
    }

    /** "0 for one that is AWAY": never drawn, first, within or last. */
    static void promise09_oneAwayIsNotDrawn() {
        for (int drawn = 1; drawn < 10; drawn++) {
            due("the first away, of 7", sealed(THREE + ";away 0", HALF[drawn]).assign(0, 0), drawn % 7 < 5 ? 1 : 2);
            due("the second away, of 5", sealed(THREE + ";away 1", HALF[drawn]).assign(0, 0), drawn % 5 < 3 ? 0 : 2);
            due("the last away, of 8", sealed(THREE + ";away 2", HALF[drawn]).assign(0, 0), drawn % 8 < 3 ? 0 : 1);
        }
    }

    /** "(as they are, without a sign)": a chain whose highest bit is 1. */
    static void promise09_chainHasNoSign() {
        due("seed 262144: 1078337569 by 10 leaves 9", sealed(THREE, 262144).assign(0, 0), 2);
        CaseWheel x = sealed("judge 5;judge 5", MOST);
        due("1074122767 by 10 leaves 7", x.assign(0, 0), 1);
        due("981974205 by 10 leaves 5", x.assign(0, 0), 1);
    }

    /** "if BARRED from the PARTY, all this is done again" */
    static void promise09_barredTurnsAgain() {
        CaseWheel x = told(TWO + ";bar 0 3");
        due("drawn 0, 0, 0, 1", x.assign(0, 3), 1);
        due("told(2)", x.told(2), 4);
        due("drawn 0, by another party", x.assign(0, 2), 0);
        due("drawn 0, 1", x.assign(0, 3), 1);
        due("told(2)", x.told(2), 7);
    }

    /** "TURNS: how often THE CHAIN was TURNED": what is thrown away counts. */
    static void promise09_thrownAwayIsTurned() {
        CaseWheel x = sealed(THREE, LATE[9]);
        x.assign(0, 0);
        x.assign(0, 0);
        due("told(2)", x.told(2), 3);
    }

    /** "DEBT is -99 at least" */
    static void promise09_debtIsMinus99AtLeast() {
        CaseWheel x = told(ALONE);
        assignAll(x, 2, 0);
        due("-90", debts(x), "-90 18 18 18 18 18");
        x.assign(0, 0);
        due("-99", debts(x), "-99 27 27 27 27 27");
        x.assign(0, 0);
        due("-99 still", debts(x), "-99 36 36 36 36 36");
        x.assign(0, 1);
        due("and up from there", debts(x), "-90 -9 45 45 45 45");
    }

    /** "99 at most" */
    static void promise09_debtIs99AtMost() {
        CaseWheel x = told(ALONE);
        assignAll(x, 11, 0);
        due("99 of itself", debts(x), "-99 99 99 99 99 99");
        x.assign(0, 0);
        due("99 still", debts(x), "-99 99 99 99 99 99");
    }

    /** "both done, DEBT is -99 at least, 99 at most": bounded only then. */
    static void promise09_debtIsBoundedWhenBothAreDone() {
        CaseWheel x = told(ALONE);
        assignAll(x, 12, 0);
        x.assign(0, 1);
        due("99 and 9 less 54", debts(x), "-90 54 99 99 99 99");
    }

    /** "each JUDGE that is not AWAY has its STRENGTH more as DEBT": one away has not. */
    static void promise09_oneAwayOwesNothing() {
        CaseWheel x = told(THREE + ";away 0;bar 2 0");
        x.assign(0, 0);
        due("strengths 5 and 2", debts(x), "0 -2 2");
        x.away(0, 0);
        x.away(2, 1);
        x.away(1, 1);
        x.assign(0, 0);
        due("one alone", debts(x), "0 -2 2");
    }

    /** "each JUDGE that is not AWAY": one barred has it, too. */
    static void promise09_oneBarredOwes() {
        CaseWheel x = told(TWO + ";bar 0 3");
        x.assign(0, 3);
        due("debts", debts(x), "1 -1");
    }

    // ---- 10: refuse

    /** "UNKNOWN (no such JUDGE, CASE" */
    static void promise10_unknownCase() {
        CaseWheel x = busy();
        dueRefusedForAll(x, "refuse", x::refuse, UNKNOWN, -1, 4, 19, 20, LEAST, MOST);
    }

    /** "NOT: all others are AWAY or BARRED from its PARTY." */
    static void promise10_notIfAllOthersAreAwayOrBarred() {
        CaseWheel one = told("judge 1");
        one.assign(0, 0);
        dueRefused(one, "no others", () -> one.refuse(0), NOT);
        due("not barred", one.judge(0, 2), 0);
        CaseWheel away = told(TWO + ";away 1");
        away.assign(0, 0);
        dueRefused(away, "others away", () -> away.refuse(0), NOT);
        CaseWheel barred = told(TWO + ";bar 1 9");
        barred.assign(0, 9);
        dueRefused(barred, "others barred", () -> barred.refuse(0), NOT);
        CaseWheel each = told("judge 1;judge 1;judge 1;away 1;bar 2 9");
        each.assign(0, 9);
        dueRefused(each, "one away, one barred", () -> each.refuse(0), NOT);
    }

    /** "all others": that the judge itself is away or barred already does not matter. */
    static void promise10_itsJudgeMayBeAwayOrBarred() {
        CaseWheel away = told(TWO);
        away.assign(0, 0);
        away.away(0, 1);
        due("away", away.refuse(0), 1);
        due("barred, too", away.judge(0, 2), 1);
        CaseWheel barred = told(TWO);
        assignAll(barred, 2, 0);
        barred.refuse(0);
        due("barred by the other case", barred.refuse(1), 1);
        dueRefused(barred, "then the other", () -> barred.refuse(1), NOT);
    }

    /** "a CASE's JUDGE is BARRED from its PARTY from then on": before the case is drawn again. */
    static void promise10_barredFromThenOn() {
        CaseWheel x = told(TWO);
        x.assign(0, 9);
        due("drawn 0, 0, 1", x.refuse(0), 1);
        due("told(2)", x.told(2), 4);
        due("judge 0", x.judge(0, 2), 512);
        due("judge 1", x.judge(1, 2), 0);
        due("never again", x.next(0, 9), 1);
        due("of another party", x.next(0, 8), 0);
    }

    /** "its place in THE DOCKET stays": first of several, and in a full docket. */
    static void promise10_placeStays() {
        CaseWheel x = told(TWO);
        x.assign(1, 2);
        x.assign(3, 4);
        x.refuse(0);
        due("the writing", docketOf(x), "0b2j1.1d4j0.");
        assignAll(x, 18, 7);
        int other = 1 - x.caseOf(19, 2);
        due("the last of 20", x.refuse(19), other);
        due("caseOf(19, 2)", x.caseOf(19, 2), other);
        due("told(1)", x.told(1), 20);
    }

    /** "DEBT of before stays as it is": and that of the new draw comes to it. */
    static void promise10_debtOfBeforeStays() {
        CaseWheel x = told(THREE);
        x.assign(0, 0);
        due("ahead", debts(x), "3 -5 2");
        due("drawn 4, 0", x.refuse(0), 0);
        due("behind", debts(x), "-4 0 4");
    }

    // ---- 11: away

    /** "UNKNOWN (no such JUDGE" */
    static void promise11_unknownJudge() {
        CaseWheel x = busy();
        dueRefusedForAll(x, "away(_, 1)", j -> x.away(j, 1), UNKNOWN, -1, 3, 6, 32, LEAST, MOST);
        due("the sixth", told(SIX).away(5, 1), 1);
        due("a seventh", told(SIX).away(6, 1), UNKNOWN);
    }

    /** "A JUDGE is AWAY (is 1), or not (0).", "OUTSIDE" */
    static void promise11_outsideIs() {
        CaseWheel x = busy();
        for (int judge = 0; judge < 2; judge++) {
            int j = judge;
            dueRefusedForAll(x, "away(" + j + ", _)", is -> x.away(j, is), OUTSIDE, -1, 2, LEAST, MOST);
        }
    }

    /** "UNKNOWN; OUTSIDE; NOT": the first of these that fits. */
    static void promise11_orderOfRefusals() {
        CaseWheel x = told(TWO);
        due("away(2, 2)", x.away(2, 2), UNKNOWN);
        due("away(2, 0)", x.away(2, 0), UNKNOWN);
        due("away(1, 2)", x.away(1, 2), OUTSIDE);
        due("away(1, 0)", x.away(1, 0), NOT);
    }

    /** "NOT: so it is." */
    static void promise11_notIfSo() {
        CaseWheel x = told(TWO + ";away 1");
        dueRefused(x, "not away", () -> x.away(0, 0), NOT);
        dueRefused(x, "away by the text", () -> x.away(1, 1), NOT);
        due("away(0, 1)", x.away(0, 1), 1);
        dueRefused(x, "away by the call", () -> x.away(0, 1), NOT);
        due("away(1, 0)", x.away(1, 0), 1);
        dueRefused(x, "back by the call", () -> x.away(1, 0), NOT);
    }

    /** "A JUDGE is AWAY (is 1), or not (0).": all six at once. */
    static void promise11_allSixAway() {
        CaseWheel x = told(SIX);
        for (int judge = 0; judge < 6; judge++) x.away(judge, 1);
        due("told(5)", x.told(5), 63);
        due("assign(0, 0)", x.assign(0, 0), NOT);
        due("away(5, 0)", x.away(5, 0), 1);
        due("told(5)", x.told(5), 31);
        due("assign(0, 0) again", x.assign(0, 0), 5);
    }

    // ---- 12: undo

    /** "NOT: none.": none yet, and none any more. */
    static void promise12_notOfNone() {
        CaseWheel x = told(TWO);
        dueRefused(x, "none yet", x::undo, NOT);
        x.assign(0, 0);
        due("undo()", x.undo(), 0);
        dueRefused(x, "none any more", x::undo, NOT);
    }

    /** "The latest assign(), refuse(), away() is undone, THE CHAIN, TURNS as ahead of it": each of them. */
    static void promise12_asAheadOfIt() {
        CaseWheel x = sealed(THREE + ";rule both", 42);
        x.assign(0, 0);
        String[] ahead = new String[3];
        ahead[0] = look(x);
        x.assign(4, 9);
        ahead[1] = look(x);
        x.refuse(0);
        ahead[2] = look(x);
        x.away(0, 1);
        for (int i = 2; i >= 0; i--) {
            due("undo()", x.undo(), i + 1);
            due("as ahead of it", look(x), ahead[i]);
        }
    }

    /** "the last 8 can be": the ninth is not. */
    static void promise12_theLast8() {
        CaseWheel x = told(TWO);
        for (int done = 1; done <= 9; done++) {
            x.assign(done % 5, done % 10);
            due("told(6)", x.told(6), Math.min(done, 8));
        }
        for (int left = 7; left >= 0; left--) due("undo()", x.undo(), left);
        dueRefused(x, "the ninth", x::undo, NOT);
        due("one case is left", docketOf(x), "0b1j0.");
    }

    /** "the last 8 can be": when more than twice as many were done, and again behind undo(). */
    static void promise12_theLast8WrapAround() {
        CaseWheel x = told(TWO);
        String[] ahead = new String[19];
        for (int done = 0; done < 19; done++) {
            ahead[done] = look(x);
            x.assign(done % 5, done % 10);
        }
        for (int i = 18; i > 14; i--) {
            x.undo();
            due("as ahead of case " + i, look(x), ahead[i]);
        }
        for (int i = 0; i < 6; i++) x.away(0, 1 - i % 2);
        due("told(6)", x.told(6), 8);
        for (int i = 0; i < 6; i++) x.undo();
        due("as ahead of away()", look(x), ahead[15]);
        due("undo()", x.undo(), 1);
        due("undo()", x.undo(), 0);
        due("as ahead of case 13", look(x), ahead[13]);
        due("undo() of none", x.undo(), NOT);
    }

    /** "The latest assign(), refuse(), away()": what was refused, and other calls, do not count. */
    static void promise12_refusedCallsDoNotCount() {
        CaseWheel x = told(TWO);
        x.assign(0, 0);
        x.assign(0, 10);
        x.assign(5, 0);
        x.refuse(1);
        x.away(0, 0);
        x.away(0, 2);
        x.next(0, 0);
        x.count(1, 0);
        x.like(1);
        x.keep(0);
        x.seal(0);
        x.back(1);
        withSlip(x, 0, "a");
        writeText(x, "wheels").wheel();
        due("told(6)", x.told(6), 1);
        due("undo()", x.undo(), 0);
        due("told(1)", x.told(1), 0);
        due("slips stay", x.told(8), 1);
        due("the text stays", x.told(7), 6);
    }

    /** "is undone": what was barred by refuse() is not so any more. */
    static void promise12_barredIsUndone() {
        CaseWheel x = told(TWO);
        x.assign(0, 0);
        x.refuse(0);
        x.undo();
        due("judge(0, 2)", x.judge(0, 2), 0);
        due("caseOf(0, 2)", x.caseOf(0, 2), 0);
        due("debts", debts(x), "-1 1");
        due("refuse(0) again", x.refuse(0), 1);
    }

    // ---- 13: keep

    /** "is kept (k 0, 1)", "UNKNOWN: no such k." */
    static void promise13_unknownK() {
        CaseWheel x = busy();
        dueRefusedForAll(x, "keep", x::keep, UNKNOWN, -1, 2, LEAST, MOST);
        dueForAll("nothing was kept", x::back, NOT, 0, 1);
    }

    /** "how many CASES": none, and 20. */
    static void promise13_howManyCases() {
        CaseWheel x = new CaseWheel();
        due("none", x.keep(0), 0);
        writeText(x, "judge 1").wheel();
        assignAll(x, 20, 0);
        due("20", x.keep(1), 20);
    }

    /** "is kept": it changes nothing, nor what can be undone. */
    static void promise13_keepChangesNothing() {
        CaseWheel x = busy();
        String before = lookAll(x);
        x.keep(0);
        due("all", lookAll(x), before);
        due("undo()", x.undo(), 5);
    }

    /** "(k 0, 1)": the one does not touch the other, and the later one stands. */
    static void promise13_twoPlaces() {
        CaseWheel x = told(TWO);
        x.keep(0);
        x.assign(0, 0);
        x.keep(1);
        x.assign(0, 0);
        due("back(0)", x.back(0), 0);
        due("back(1)", x.back(1), 1);
        x.assign(0, 0);
        x.keep(0);
        due("back(1) again", x.back(1), 1);
        due("the later one", x.back(0), 2);
    }

    // ---- 14: back

    /** "UNKNOWN; NOT": no such k. */
    static void promise14_unknownK() {
        CaseWheel x = busy();
        x.keep(0);
        x.keep(1);
        dueRefusedForAll(x, "back", x::back, UNKNOWN, -1, 2, LEAST, MOST);
    }

    /** "NOT: nothing was kept since the last text.": never, or ahead of it. */
    static void promise14_notIfNothingWasKept() {
        CaseWheel x = busy();
        dueRefusedForAll(x, "back", x::back, NOT, 0, 1);
        x.keep(0);
        dueRefused(x, "back(1)", () -> x.back(1), NOT);
        x.erase();
        writeText(x, "rule plain").wheel();
        x.keep(1);
        dueRefused(x, "kept ahead of the text", () -> x.back(0), NOT);
        due("kept behind the text", x.back(1), 0);
    }

    /** "since the last text": one with a fault is none that was told. */
    static void promise14_faultyTextLeavesWhatIsKept() {
        CaseWheel x = busy();
        x.keep(0);
        due("wheel()", x.wheel(), NOT);
        due("back(0)", x.back(0), 4);
    }

    /** "It is as it was kept": and again, though it was changed since. */
    static void promise14_asItWasKept() {
        CaseWheel x = busy();
        String kept = look(x);
        x.keep(1);
        for (int time = 0; time < 2; time++) {
            x.away(1, 0);
            assignAll(x, 5, 3);
            x.refuse(0);
            x.seal(9);
            for (int i = 0; i < 20; i++) x.assign(4, 9);
            due("back(1)", x.back(1), 4);
            due("as kept", look(x), kept);
        }
    }

    /** "nothing can be undone": neither what was done ahead of keep() nor since. */
    static void promise14_nothingCanBeUndone() {
        CaseWheel x = told(TWO);
        x.assign(0, 0);
        x.keep(0);
        x.assign(0, 0);
        x.back(0);
        due("told(6)", x.told(6), 0);
        dueRefused(x, "undo()", x::undo, NOT);
        x.assign(0, 0);
        due("undo() of a later one", x.undo(), 0);
    }

    /** "All but THE TEXT and SLIPS": these stay as they are. */
    static void promise14_textAndSlipsStay() {
        CaseWheel x = told(TWO);
        withSlip(x, 0, "abc");
        writeText(x, "whe");
        x.keep(0);
        x.drop(0);
        withSlip(x, 2, "both");
        writeText(x, "el");
        x.back(0);
        due("slip 0", x.drop(0), NULL);
        due("slip 2", x.named(2), 3);
        due("the text", x.wheel(), 1);
    }
}
