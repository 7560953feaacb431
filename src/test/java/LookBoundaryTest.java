/**
 * Promises 15 to 21 and 31, what can be looked at: a test for each sentence of ../shared/DOC.md that names a boundary.
 * Each test bears the number of its promise, and the document's words that it holds the class to.
 */
public final class LookBoundaryTest extends Wheels {
    public static void main(String[] args) throws Exception {
        runBoundaries(LookBoundaryTest.class, 15, 16, 17, 18, 19, 20, 21, 31);
    }

    private static String odds(CaseWheel x, int judge, int subject, int party) {
        return x.odds(judge, subject, party, 0) + " by " + x.odds(judge, subject, party, 1);
    }

    // ---- 15: writing

    /** "OUTSIDE: k below 0." */
    static void promise15_outsideBelow0() {
        CaseWheel x = busy();
        dueRefusedForAll(x, "writing", x::writing, OUTSIDE, -1, LEAST);
        due("of an empty docket", new CaseWheel().writing(-1), OUTSIDE);
    }

    /** "NONE beyond": of no cases, of one, of 20. */
    static void promise15_noneBeyond() {
        CaseWheel x = told("judge 1");
        dueForAll("of no cases", x::writing, NONE, 0, 1, MOST);
        x.assign(3, 9);
        due("the last letter", x.writing(5), (int) '.');
        dueForAll("of one case", x::writing, NONE, 6, 7, MOST);
        assignAll(x, 19, 0);
        due("the last letter of 20", x.writing(129), (int) '.');
        dueForAll("of 20 cases", x::writing, NONE, 130, 131, MOST);
    }

    /** "its number, the SUBJECT's letter, the PARTY's number, j, the JUDGE's number, and a point": least and most. */
    static void promise15_leastAndMostLetters() {
        CaseWheel x = told(SIX + ";away 0;away 1;away 2;away 3;away 4");
        x.assign(4, 9);
        x.away(0, 0);
        x.away(5, 1);
        x.assign(0, 0);
        due("the writing", docketOf(x), "0e9j5.1a0j0.");
    }

    /** "its number": of one digit up to 9, of two from 10 to 19. */
    static void promise15_numbersOfTwoDigits() {
        CaseWheel x = told("judge 1");
        assignAll(x, 20, 3);
        StringBuilder want = new StringBuilder();
        for (int i = 0; i < 20; i++) want.append(i).append((char) ('a' + i % 5)).append("3j0.");
        due("the writing", docketOf(x), want.toString());
    }

    /** "THE WRITING of THE DOCKET": nothing is left of cases that went. */
    static void promise15_nothingOfCasesThatWent() {
        CaseWheel x = told("judge 1");
        assignAll(x, 2, 0);
        docketOf(x);
        x.undo();
        due("behind undo()", docketOf(x), "0a0j0.");
        x.seal(1);
        due("behind seal()", docketOf(x), "");
    }

    // ---- 16: sealOf

    /** "OUTSIDE.": the seed. */
    static void promise16_outsideSeeds() {
        CaseWheel x = busy();
        dueRefusedForAll(x, "sealOf(_, 0)", s -> x.sealOf(s, 0), OUTSIDE, 0, -1, LEAST);
    }

    /** "The k-th letter (0 .. 7)", "OUTSIDE." */
    static void promise16_outsideK() {
        CaseWheel x = busy();
        dueRefusedForAll(x, "sealOf(1, _)", k -> x.sealOf(1, k), OUTSIDE, -1, 8, LEAST, MOST);
    }

    /** "eight letters a .. p, one for each four bits (the highest first)": of the least and the most seed. */
    static void promise16_leastAndMostSeed() {
        due("of 1", sealOf(new CaseWheel(), 1), "pomdbafj");
        due("of 2147483647", sealOf(new CaseWheel(), MOST), "gckfanfi");
    }

    /** "each bit changed where 305419896 has a 1": what is all 0 stays so, the next is 1, TURNED five times. */
    static void promise16_sealOfTheChangedBits() {
        due("of 305419896", sealOf(new CaseWheel(), 305419896), "aaaaaaaa");
        due("of 305419897", sealOf(new CaseWheel(), 305419897), "iopjbhnb");
    }

    /** "THE SEAL of a SEED": of any, whatever is sealed, and nothing changes. */
    static void promise16_whateverIsSealed() {
        CaseWheel x = busy();
        String before = lookAll(x);
        due("of 1", sealOf(x, 1), "pomdbafj");
        due("all", lookAll(x), before);
    }

    // ---- 17: weight

    /** "UNKNOWN; OUTSIDE." */
    static void promise17_refusals() {
        CaseWheel x = busy();
        dueRefusedForAll(x, "weight(_, 0)", j -> x.weight(j, 0), UNKNOWN, -1, 3, 6, LEAST, MOST);
        dueRefusedForAll(x, "weight(0, _)", s -> x.weight(0, s), OUTSIDE, -1, 5, LEAST, MOST);
        dueForAll("of one away", s -> x.weight(1, s), OUTSIDE, -1, 5);
        due("UNKNOWN ahead of OUTSIDE", x.weight(3, 5), UNKNOWN);
    }

    /** "Always at least 1": when the debt is as large as the strength, larger, and -99. */
    static void promise17_atLeast1() {
        CaseWheel x = told("judge 1;judge 1;rule owing;bar 0 0;bar 1 1");
        x.assign(0, 0);
        due("debts", debts(x), "1 -1");
        due("1 and -1", x.weight(1, 0), 1);
        assignAll(x, 5, 0);
        due("1 and -6", x.weight(1, 0), 1);
        CaseWheel y = told(SIX + ";rule both;bar 1 0;bar 2 0;bar 3 0;bar 4 0;bar 5 0");
        y.assign(0, 0);
        due("9 and -45", y.weight(0, 0), 1);
        assignAll(y, 3, 0);
        due("9 and -99", y.weight(0, 0), 1);
    }

    /** "Always at least 1": not where it is more, by one. */
    static void promise17_justAbove1() {
        CaseWheel x = told("judge 3;judge 1;rule owing;bar 1 0");
        x.assign(0, 0);
        due("3 and -1", x.weight(0, 0), 2);
        x.assign(0, 0);
        due("3 and -2", x.weight(0, 0), 1);
        x.assign(0, 0);
        due("3 and -3", x.weight(0, 0), 1);
    }

    /** "0 for one that is AWAY": by every rule, and by debt. */
    static void promise17_zeroForOneAway() {
        for (String rule : new String[] {"plain", "versed", "owing", "both"}) {
            CaseWheel x = told("judge 9 a;judge 1;bar 0 0;rule " + rule);
            x.assign(0, 0);
            x.away(0, 1);
            x.away(1, 1);
            due("owed, " + rule, x.weight(0, 0), 0);
            due("owing, " + rule, x.weight(1, 0), 0);
        }
    }

    /** "versed: twice that, if VERSED in it", "both: as versed, and DEBT": each rule by what it counts. */
    static void promise17_eachRule() {
        String[] rules = {"plain", "versed", "owing", "both"};
        int[] versed = {3, 6, 6, 9}, notVersed = {3, 3, 6, 6};
        for (int rule = 0; rule < 4; rule++) {
            CaseWheel x = told("judge 3 ae;judge 5;bar 0 0;rule " + rules[rule]);
            x.assign(0, 0);
            due("debts", debts(x), "3 -3");
            due("subject a, " + rules[rule], x.weight(0, 0), versed[rule]);
            due("subject e, " + rules[rule], x.weight(0, 4), versed[rule]);
            due("subject b, " + rules[rule], x.weight(0, 1), notVersed[rule]);
        }
    }

    /** "both: as versed, and DEBT": the most there can be. */
    static void promise17_theMost() {
        CaseWheel x = told("judge 9 a;judge 9;bar 0 0;rule both");
        assignAll(x, 12, 0);
        due("18 and 99", x.weight(0, 0), 117);
        due("9 and 99", x.weight(0, 1), 108);
    }

    // ---- 18: odds

    /** "UNKNOWN; OUTSIDE": judge, subject, party, part. */
    static void promise18_refusals() {
        CaseWheel x = busy();
        dueRefusedForAll(x, "odds(_, 0, 0, 0)", j -> x.odds(j, 0, 0, 0), UNKNOWN, -1, 3, 6, LEAST, MOST);
        dueRefusedForAll(x, "odds(0, _, 0, 0)", s -> x.odds(0, s, 0, 0), OUTSIDE, -1, 5, LEAST, MOST);
        dueRefusedForAll(x, "odds(0, 0, _, 0)", p -> x.odds(0, 0, p, 0), OUTSIDE, -1, 10, LEAST, MOST);
        dueRefusedForAll(x, "odds(0, 0, 0, _)", part -> x.odds(0, 0, 0, part), OUTSIDE, -1, 2, LEAST, MOST);
    }

    /** "UNKNOWN; OUTSIDE; NOT": the first of these that fits. */
    static void promise18_orderOfRefusals() {
        CaseWheel x = told("judge 1;bar 0 9");
        due("UNKNOWN", x.odds(1, 5, 9, 2), UNKNOWN);
        due("OUTSIDE, subject", x.odds(0, 5, 9, 0), OUTSIDE);
        due("OUTSIDE, part", x.odds(0, 0, 9, 2), OUTSIDE);
        due("NOT", x.odds(0, 0, 9, 0), NOT);
    }

    /** "NOT: all are AWAY or BARRED." */
    static void promise18_notIfAllAreAwayOrBarred() {
        CaseWheel x = told(TWO + ";away 0;bar 1 9");
        dueRefusedForAll(x, "odds(_, 0, 9, 0)", j -> x.odds(j, 0, 9, 0), NOT, 0, 1);
        dueRefusedForAll(x, "odds(_, 0, 9, 1)", j -> x.odds(j, 0, 9, 1), NOT, 0, 1);
        due("of another party", odds(x, 1, 0, 8), "1 by 1");
    }

    /** "(0 by 1 for one that is AWAY, BARRED)" */
    static void promise18_zeroByOne() {
        CaseWheel x = told(THREE + ";away 0;bar 1 9");
        due("away", odds(x, 0, 0, 0), "0 by 1");
        due("barred", odds(x, 1, 0, 9), "0 by 1");
        x.away(1, 1);
        due("both", odds(x, 1, 0, 9), "0 by 1");
    }

    /** "by those of all who are not BARRED from it together": nor of those who are away. */
    static void promise18_thoseTogether() {
        CaseWheel x = told(THREE + ";bar 1 9");
        due("of all", odds(x, 0, 0, 0), "3 by 10");
        due("one barred", odds(x, 0, 0, 9), "3 by 5");
        x.away(2, 1);
        due("one away", odds(x, 0, 0, 0), "3 by 8");
        due("alone", odds(x, 0, 0, 9), "1 by 1");
    }

    /** "Parts are told in lowest terms" */
    static void promise18_lowestTerms() {
        due("6 by 9", odds(told("judge 6;judge 3"), 0, 0, 0), "2 by 3");
        due("4 by 8", odds(told("judge 4;judge 4"), 1, 0, 0), "1 by 2");
        due("9 by 54", odds(told(SIX), 5, 0, 0), "1 by 6");
        due("7 by 7", odds(told("judge 7"), 0, 0, 0), "1 by 1");
        due("9 by 10", odds(told("judge 9;judge 1"), 0, 0, 0), "9 by 10");
        due("1 by 10", odds(told("judge 9;judge 1"), 1, 0, 0), "1 by 10");
    }

    /** "its WEIGHT by those": by debts at their most. */
    static void promise18_byDebts() {
        CaseWheel x = told(SIX + ";rule owing;bar 1 0;bar 2 0;bar 3 0;bar 4 0;bar 5 0");
        assignAll(x, 12, 0);
        due("108 by 541", odds(x, 1, 0, 1), "108 by 541");
        due("1 by 541", odds(x, 0, 0, 1), "1 by 541");
    }

    // ---- 19: next

    /** "OUTSIDE; NOT": subject, party. */
    static void promise19_outside() {
        CaseWheel x = busy();
        dueRefusedForAll(x, "next(_, 0)", s -> x.next(s, 0), OUTSIDE, -1, 5, LEAST, MOST);
        dueRefusedForAll(x, "next(0, _)", p -> x.next(0, p), OUTSIDE, -1, 10, LEAST, MOST);
    }

    /** "NOT: all are AWAY or BARRED.": behind OUTSIDE. */
    static void promise19_not() {
        due("no judges", new CaseWheel().next(0, 0), NOT);
        CaseWheel x = told(TWO + ";away 0;bar 1 9");
        dueRefused(x, "next(0, 9)", () -> x.next(0, 9), NOT);
        due("OUTSIDE first", x.next(5, 9), OUTSIDE);
        due("of another party", x.next(0, 8), 1);
    }

    /** "FORETOLD (nothing changes)": neither chain nor turns, though some are drawn in vain. */
    static void promise19_nothingChanges() {
        CaseWheel x = told(TWO + ";bar 0 3");
        for (int time = 0; time < 3; time++) due("next(0, 3)", x.next(0, 3), 1);
        due("told(2)", x.told(2), 0);
        due("told(6)", x.told(6), 0);
        due("debts", debts(x), "0 0");
        due("drawn still", x.assign(0, 0), 0);
    }

    /** "NEXT: who would be ASSIGNED.": a full docket is no refusal of it. */
    static void promise19_ofAFullDocket() {
        CaseWheel x = told(TWO + ";bar 0 3");
        assignAll(x, 20, 0);
        due("assign(0, 3)", x.assign(0, 3), FULL);
        due("next(0, 3)", x.next(0, 3), 1);
    }

    // ---- 20: count

    /** "OUTSIDE": the seed, what. */
    static void promise20_outside() {
        CaseWheel x = busy();
        dueRefusedForAll(x, "count(_, 0)", s -> x.count(s, 0), OUTSIDE, 0, -1, LEAST);
        dueRefusedForAll(x, "count(1, _)", what -> x.count(1, what), OUTSIDE, -1, 2, LEAST, MOST);
    }

    /** "NOT: some CASE has nobody who is not AWAY or BARRED.": the first, the last, though others have. */
    static void promise20_notIfSomeCaseHasNobody() {
        for (int place = 0; place < 3; place++) {
            CaseWheel x = told(TWO + ";bar 0 9");
            for (int i = 0; i < 3; i++) x.assign(0, i == place ? 9 : 0);
            x.away(1, 1);
            dueRefused(x, "count(1, 0)", () -> x.count(1, 0), NOT);
            dueRefused(x, "count(1, 1)", () -> x.count(1, 1), NOT);
            due("OUTSIDE first", x.count(0, 0), OUTSIDE);
            x.away(1, 0);
            due("with judge 1", x.count(1, 0) >= 0, true);
        }
    }

    /** "THE DOCKET's CASES": of none, without judges, too. */
    static void promise20_noCases() {
        dueForAll("count(1, _)", what -> new CaseWheel().count(1, what), 0, 0, 1);
        CaseWheel x = told("judge 1;away 0");
        dueForAll("count(1, _), all away", what -> x.count(1, what), 0, 0, 1);
    }

    /** "how many have the same JUDGE": all 20 by its own seed, the least and the most. */
    static void promise20_byItsOwnSeed() {
        for (int seed : new int[] {1, MOST}) {
            CaseWheel x = sealed(THREE + ";rule both", seed);
            assignAll(x, 20, 1);
            due("how many", x.count(seed, 0), 20);
            due("turns", x.count(seed, 1), x.told(2));
        }
    }

    /** "how many have the same JUDGE": none. */
    static void promise20_noneTheSame() {
        CaseWheel x = sealed(TWO, 1);
        due("by seed 1", x.assign(0, 0), 0);
        due("by seed 2147483647: 1", x.count(MOST, 0), 0);
    }

    /** "(SEALED first; JUDGES that are AWAY, BARRED as they are now, none REFUSES)" */
    static void promise20_awayAndBarredAsNow() {
        CaseWheel x = told(TWO);
        assignAll(x, 3, 0);
        due("drawn 0, 0, 0", docketOf(x), "0a0j0.1b0j0.2c0j0.");
        x.refuse(1);
        due("judge 1 alone may have them", x.count(1, 0), 1);
        due("drawn 0001 001 1", x.count(1, 1), 8);
        x.away(0, 1);
        due("a turn each", x.count(1, 1), 3);
        CaseWheel y = told(THREE + ";rule owing");
        assignAll(y, 9, 0);
        due("no debt to begin with", y.count(1, 0), 9);
    }

    /** "all TURNS then": what is thrown away counts. */
    static void promise20_thrownAwayIsTurned() {
        CaseWheel x = told(THREE);
        x.assign(0, 0);
        due("by 1584200935", x.count(1584200935, 1), 2);
        due("by 624307827", x.count(624307827, 1), 1);
    }

    /** "FORETOLD (nothing changes)" */
    static void promise20_nothingChanges() {
        CaseWheel x = busy();
        x.away(1, 0);
        String before = lookAll(x);
        due("count(7, 0)", x.count(7, 0) >= 0, true);
        due("count(7, 1)", x.count(7, 1) >= 4, true);
        due("all", lookAll(x), before);
    }

    // ---- 21: like

    /** "LIKE for n (1 .. 20)", "OUTSIDE" */
    static void promise21_outside() {
        CaseWheel x = busy();
        dueRefusedForAll(x, "like", x::like, OUTSIDE, 0, -1, 21, LEAST, MOST);
    }

    /** "NOT: as of count().": behind OUTSIDE, ahead of NONE. */
    static void promise21_not() {
        CaseWheel x = told(TWO + ";bar 0 9");
        x.assign(0, 0);
        x.assign(0, 9);
        x.away(1, 1);
        dueRefusedForAll(x, "like", x::like, NOT, 1, 2, 3, 20);
        dueForAll("OUTSIDE first", x::like, OUTSIDE, 0, 21);
    }

    /** "at least n CASES": more than there are. */
    static void promise21_moreThanThereAre() {
        dueForAll("of no cases", new CaseWheel()::like, NONE, 1, 20);
        CaseWheel x = told("judge 1");
        assignAll(x, 19, 0);
        due("19 of 19", x.like(19), 1);
        due("20 of 19", x.like(20), NONE);
        x.assign(0, 0);
        due("20 of 20", x.like(20), 1);
    }

    /** "the least SEED (1 .. 300)": 1 and 300, but not 301. */
    static void promise21_seeds1To300() {
        for (int seed : new int[] {1, 2, 299, 300, 301}) {
            CaseWheel x = sealed(THREE, seed);
            assignAll(x, 20, 0);
            due("like(20) of seed " + seed, x.like(20), seed == 301 ? NONE : seed);
        }
    }

    /** "the least SEED (1 .. 300) by which at least n CASES would have the same JUDGE": n, or more. */
    static void promise21_leastSeedOfAtLeastN() {
        CaseWheel x = sealed(THREE + ";rule both", 100000);
        assignAll(x, 12, 0);
        for (int n = 1; n <= 12; n++) {
            int least = NONE;
            for (int seed = 300; seed >= 1; seed--) if (x.count(seed, 0) >= n) least = seed;
            due("like(" + n + ")", x.like(n), least);
        }
    }

    /** "FORETOLD (nothing changes)" */
    static void promise21_nothingChanges() {
        CaseWheel x = busy();
        x.away(1, 0);
        String before = lookAll(x);
        due("like(1)", x.like(1) >= 1, true);
        due("like(4)", x.like(4) != NOT, true);
        due("all", lookAll(x), before);
    }

    // ---- 31: told

    /** "OUTSIDE.": what is 0 to 9. */
    static void promise31_outside() {
        CaseWheel x = busy();
        dueRefusedForAll(x, "told", x::told, OUTSIDE, -1, 10, LEAST, MOST);
    }

    /** "0 JUDGES": none, and six. */
    static void promise31_judges() {
        due("none", new CaseWheel().told(0), 0);
        due("six", told(SIX).told(0), 6);
    }

    /** "1 CASES", "4 letters of THE WRITING": none, 9, 10, 11, 20. */
    static void promise31_casesAndLettersOfTheWriting() {
        int[] cases = {0, 9, 10, 11, 20}, letters = {0, 54, 60, 67, 130};
        for (int i = 0; i < 5; i++) {
            CaseWheel x = told("judge 1");
            assignAll(x, cases[i], 0);
            due("cases", x.told(1), cases[i]);
            due("letters", x.told(4), letters[i]);
        }
    }

    /** "2 TURNS": 0 when sealed, as ahead of what is undone. */
    static void promise31_turns() {
        CaseWheel x = told(TWO + ";bar 0 3");
        x.assign(0, 3);
        due("drawn 0, 0, 0, 1", x.told(2), 4);
        x.undo();
        due("behind undo()", x.told(2), 0);
        x.assign(0, 0);
        x.seal(1);
        due("behind seal()", x.told(2), 0);
    }

    /** "3 the RULE (0 .. 3)" */
    static void promise31_rule() {
        String[] rules = {"plain", "versed", "owing", "both"};
        for (int rule = 0; rule < 4; rule++) due(rules[rule], told("rule " + rules[rule]).told(3), rule);
    }

    /** "5 who is AWAY (bits)": none, the first, the last, all. */
    static void promise31_away() {
        due("none", told(SIX).told(5), 0);
        due("the first", told(SIX + ";away 0").told(5), 1);
        due("the last", told(SIX + ";away 5").told(5), 32);
        due("all", told(SIX + ";away 0;away 1;away 2;away 3;away 4;away 5").told(5), 63);
    }

    /** "6 how many can be undone": 8 at most. */
    static void promise31_undone() {
        CaseWheel x = told(TWO);
        for (int done = 0; done <= 12; done++) {
            due("told(6)", x.told(6), Math.min(done, 8));
            x.assign(0, 0);
        }
    }

    /** "7 letters of THE TEXT": none, and 200. */
    static void promise31_lettersOfTheText() {
        CaseWheel x = new CaseWheel();
        due("none", x.told(7), 0);
        writeText(x, "a".repeat(201));
        due("all", x.told(7), 200);
    }

    /** "8 letters of all SLIPS": missing ones have none, three full ones 120. */
    static void promise31_lettersOfAllSlips() {
        CaseWheel x = new CaseWheel();
        for (int slip = 0; slip < 3; slip++) {
            due("told(8)", x.told(8), 40 * slip);
            withSlip(x, slip, "a".repeat(40));
        }
        due("all full", x.told(8), 120);
        x.drop(1);
        due("one dropped", x.told(8), 80);
        x.slip(2);
        due("one empty", x.told(8), 40);
    }

    /** "9 THE SEED": the least and the most; a refused one is not it. */
    static void promise31_seed() {
        CaseWheel x = new CaseWheel();
        x.seal(MOST);
        due("the most", x.told(9), MOST);
        x.seal(0);
        due("still", x.told(9), MOST);
        x.seal(1);
        due("the least", x.told(9), 1);
    }
}
