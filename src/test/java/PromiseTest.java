/** The promises of ../shared/DOC.md one by one: ordinary calls, the edges that it names, wrong arguments. */
public final class PromiseTest extends Wheels {
    public static void main(String[] args) {
        newObject();
        write();
        erase();
        faultOfTokens();
        faultOfNumbers();
        faultOfJudges();
        faultOfClauses();
        wheelDoesClauses();
        wheelBeginsAnew();
        wheelIsAsTold();
        judge();
        caseOf();
        seal();
        assign();
        assignThrowsAway();
        assignOwes();
        refuse();
        away();
        undo();
        keepAndBack();
        writing();
        sealOf();
        weight();
        odds();
        next();
        count();
        like();
        slip();
        insert();
        cut();
        join();
        letter();
        find();
        value();
        named();
        drop();
        told();
        end();
    }

    // ---- what is told

    private static void newObject() {
        about = "promise 1";
        CaseWheel x = new CaseWheel();
        int[] due = {0, 0, 0, 0, 0, 0, 0, 0, 0, 1};
        for (int what = 0; what < 10; what++) due("told(" + what + ")", x.told(what), due[what]);
        due("judge(0, 0)", x.judge(0, 0), UNKNOWN);
        due("letter(0, 0)", x.letter(0, 0), NULL);
        due("back(0)", x.back(0), NOT);
        due("undo()", x.undo(), NOT);
        CaseWheel other = told("judge 1");
        due("judges of another object", other.told(0), 1);
        due("judges of this one still", x.told(0), 0);
    }

    private static void write() {
        about = "promise 2";
        CaseWheel x = new CaseWheel();
        dueForAll("write", x::write, OUTSIDE, -1, 256, LEAST, MOST);
        due("told(7) behind refused letters", x.told(7), 0);
        due("write(0)", x.write(0), 1);
        due("write(255)", x.write(255), 2);
        for (int i = 3; i <= 200; i++) due("write, the letter " + i, x.write('a'), i);
        due("write, the letter 201", x.write('a'), FULL);
        due("write(256) to a full text", x.write(256), OUTSIDE);
        due("told(7) of a full text", x.told(7), 200);
    }

    private static void erase() {
        about = "promise 3";
        CaseWheel x = told(TWO);
        due("erase() of nothing", x.erase(), 0);
        writeText(x, "judge 7");
        due("erase()", x.erase(), 7);
        due("told(7)", x.told(7), 0);
        due("told(0): no judge went", x.told(0), 2);
        writeText(x, "wheel");
        due("wheel(): nothing erased is done", x.wheel(), 1);
    }

    private static void faultOfTokens() {
        about = "promise 4";
        due("empty", faultOf(""), 0);
        due("blanks", faultOf("   "), 3);
        due("wheel", faultOf("wheel"), NONE);
        due("blanks around", faultOf("  wheel  ;  judge   3   ab  "), NONE);
        due("no blanks where tokens end by themselves", faultOf("judge3ab;bar0 4;rule  both"), NONE);
        due("capital", faultOf("Wheel"), 0);
        due("capital within", faultOf("judge 1 aB"), 9);
        due("a tab is no blank", faultOf("judge\t1"), 5);
        due("a point", faultOf("wheel."), 5);
        due("letter 255", faultOf("wheel" + (char) 255), 5);
        due("letter 0", faultOf("judge " + (char) 0 + "1"), 6);
        due("another word", faultOf("jury 1"), 0);
        due("a longer word", faultOf("wheels"), 0);
        due("a shorter word", faultOf("wheel;judg 1"), 6);
        due("a number first", faultOf("1 judge"), 0);
        due("another first letter", faultOf("xheel"), 0);
        due("another last letter", faultOf("judgy 1"), 0);
        due("the first of two faults", faultOf("judge 0 f"), 6);
        CaseWheel x = writeText(new CaseWheel(), "judge 12;wheels");
        x.erase();
        due("nothing erased is read on", writeText(x, "judge 1").fault(), NONE);
        due("fault() again", x.fault(), NONE);
        x.erase();
        due("nothing erased is read on in a word", writeText(x, "judge 12;wheel").fault(), 6);
    }

    private static void faultOfNumbers() {
        due("strength 0", faultOf("judge 0"), 6);
        due("strength 1", faultOf("judge 1"), NONE);
        due("strength 9", faultOf("judge 9"), NONE);
        due("strength 10", faultOf("judge 10"), 6);
        due("strength 09", faultOf("judge 09"), NONE);
        due("strength 009", faultOf("judge 009"), 6);
        due("a very long number", faultOf("judge 4294967297"), 6);
        due("minus", faultOf("judge -1"), 6);
        due("party 9", faultOf("judge 1;bar 0 9"), NONE);
        due("party 09", faultOf("judge 1;bar 00 09"), NONE);
        due("party 10", faultOf("judge 1;bar 0 10"), 14);
        due("party 000", faultOf("judge 1;bar 0 000"), 14);
        due("party missing", faultOf("judge 1;bar 0"), 13);
        due("judge and party missing", faultOf("judge 1;bar"), 11);
        due("judge and party missing, clause behind", faultOf("judge 1;bar;wheel"), 11);
        due("judge missing", faultOf("judge 1;bar a 1"), 12);
        due("party missing, with blanks", faultOf("judge 1;bar 0  "), 15);
        due("party missing, clause behind", faultOf("judge 1;bar 0;wheel"), 13);
        due("judge 1 not told ahead", faultOf("judge 1;bar 1 0;judge 1"), 12);
        due("judge 1 told ahead", faultOf("judge 1;judge 1;bar 1 0;away 01"), NONE);
        due("away 0, none told", faultOf("away 0"), 5);
        due("away without number", faultOf("judge 1;away"), 12);
        due("away word", faultOf("judge 1;away a"), 13);
        due("away 1 of one", faultOf("judge 1;away 1"), 13);
        due("wheel takes judges away", faultOf("judge 1;wheel;away 0"), 19);
        CaseWheel x = told(TWO);
        due("judges of an earlier text", writeText(x, "away 1;bar 0 3;away 1").fault(), NONE);
        x.erase();
        due("no third judge of an earlier text", writeText(x, "away 2").fault(), 5);
        x.erase();
        due("wheel takes earlier judges away", writeText(x, "wheel;away 1").fault(), 11);
    }

    private static void faultOfJudges() {
        due("versed in all", faultOf("judge 1 edcba"), NONE);
        due("versed in one", faultOf("judge 1 e"), NONE);
        due("versed twice", faultOf("judge 1 aba"), 8);
        due("versed in f", faultOf("judge 1 abf"), 8);
        due("six letters", faultOf("judge 1 abcdea"), 8);
        due("two words", faultOf("judge 1 a b"), 10);
        due("two numbers", faultOf("judge 1 2"), 8);
        due("no strength", faultOf("judge ab"), 6);
        due("no strength, end", faultOf("judge "), 6);
        String six = "judge 1;judge 1;judge 1;judge 1;judge 1;judge 1";
        due("six judges", faultOf(six), NONE);
        due("a seventh, at its word", faultOf(six + "; judge 0"), 49);
        due("wheel makes room", faultOf(six + ";wheel;judge 1"), NONE);
        due("six judges of an earlier text", writeText(told(six), "judge 1").fault(), 0);
    }

    private static void faultOfClauses() {
        due("; at the end", faultOf("wheel;"), 6);
        due("; at the end, blank", faultOf("wheel; "), 7);
        due("; first", faultOf(";wheel"), 0);
        due(";;", faultOf("wheel;;wheel"), 6);
        due("no ;", faultOf("wheel wheel"), 6);
        due("rule alone", faultOf("rule"), 4);
        due("rule of another name", faultOf("rule fair"), 5);
        due("rule number", faultOf("rule 1"), 5);
        for (String name : new String[] {"plain", "versed", "owing", "both"}) due(name, faultOf("rule " + name), NONE);
        due("rule owings", faultOf("rule owings"), 5);
        due("rule both both", faultOf("rule both both"), 10);
        String many = "wheel;".repeat(23) + "wheel";
        due("24 clauses", faultOf(many), NONE);
        due("24 clauses done", writeText(new CaseWheel(), many).wheel(), 24);
        due("a 25th clause", faultOf(many + ";wheel"), 143);
        due("200 letters", faultOf("wheel" + " ".repeat(195)), NONE);
        due("200 letters, a digit last", faultOf("judge" + " ".repeat(194) + "1"), NONE);
        due("200 letters, a word last", faultOf(" ".repeat(195) + "wheel"), NONE);
        due("200 letters, a ; last", faultOf(" ".repeat(194) + "wheel;"), 200);
    }

    private static void wheelDoesClauses() {
        about = "promise 5";
        CaseWheel x = new CaseWheel();
        due("wheel() of an empty text", x.wheel(), NOT);
        writeText(x, "judge 4 ac;judge 2;bar 0 3;bar 0 9;bar 0 3;away 1;away 1;rule owing;rule versed");
        due("wheel()", x.wheel(), 9);
        due("the text is empty", x.told(7), 0);
        due("told(0)", x.told(0), 2);
        due("judge(0, 0)", x.judge(0, 0), 4);
        due("judge(0, 1)", x.judge(0, 1), 5);
        due("judge(0, 2)", x.judge(0, 2), 8 + 512);
        due("judge(0, 3)", x.judge(0, 3), 0);
        due("judge(1, 1)", x.judge(1, 1), 0);
        due("judge(1, 2)", x.judge(1, 2), 0);
        due("judge(1, 3)", x.judge(1, 3), 1);
        due("the later rule stands", x.told(3), 1);
        writeText(x, "wheel;judge 1;judge 0");
        String before = look(x);
        due("wheel() of a fault", x.wheel(), NOT);
        due("nothing changed", look(x), before);
        due("the text stays", x.told(7), 21);
        x.erase();
        writeText(x, "wheel");
        due("wheel", x.wheel(), 1);
        due("no judges", x.told(0), 0);
        due("plain", x.told(3), 0);
        due("nobody away", x.told(5), 0);
        writeText(x, "judge 1").wheel();
        due("nothing left of the earlier judge 0", look(x), look(told("judge 1")));
    }

    private static void wheelBeginsAnew() {
        CaseWheel x = told(TWO);
        x.seal(77);
        x.assign(0, 0);
        x.keep(0);
        x.keep(1);
        withSlip(x, 0, "abc");
        writeText(x, "rule both").wheel();
        due("cases", x.told(1), 0);
        due("turns", x.told(2), 0);
        due("rule", x.told(3), 3);
        due("judges stay", x.told(0), 2);
        due("can be undone", x.told(6), 0);
        due("undo()", x.undo(), NOT);
        due("seed", x.told(9), 1);
        due("debts", debts(x), "0 0");
        due("back(0)", x.back(0), NOT);
        due("back(1)", x.back(1), NOT);
        due("letter(0, 0)", x.letter(0, 0), NULL);
        due("told(8)", x.told(8), 0);
        due("the chain is at its start", look(x), look(told(TWO + ";rule both")));
    }

    /** What was told stays as it was told: what calls did to judges since is gone with the next text. */
    private static void wheelIsAsTold() {
        CaseWheel x = told("judge 1;judge 2 b;judge 3;bar 1 4;away 2;rule versed");
        x.away(2, 0);
        x.away(0, 1);
        x.assign(0, 4);
        x.assign(1, 7);
        x.refuse(1);
        writeText(x, "judge 9");
        due("wheel()", x.wheel(), 1);
        due("all as told", look(x), look(told("judge 1;judge 2 b;judge 3;judge 9;bar 1 4;away 2;rule versed")));
    }

    private static void judge() {
        about = "promise 6";
        CaseWheel x = told(THREE + ";bar 2 0;away 2");
        int[] due = {2, 4 + 8 + 16, 1, 1, 100, 0};
        for (int what = 0; what < 6; what++) due("judge(2, " + what + ")", x.judge(2, what), due[what]);
        dueForAll("judge(_, 0)", j -> x.judge(j, 0), UNKNOWN, -1, 3, 6, LEAST, MOST);
        dueForAll("judge(0, _)", what -> x.judge(0, what), OUTSIDE, -1, 6, LEAST, MOST);
        due("judge(3, 6): UNKNOWN first", x.judge(3, 6), UNKNOWN);
        CaseWheel y = told(THREE);
        assignAll(y, 3, 0);
        due("cases of 0", y.judge(0, 5), 1);
        due("cases of 1", y.judge(1, 5), 2);
        due("debt of 1 and 100", y.judge(1, 4), 95);
    }

    private static void caseOf() {
        about = "promise 7";
        CaseWheel x = told(THREE);
        due("caseOf(0, 0) of none", x.caseOf(0, 0), UNKNOWN);
        x.assign(4, 9);
        x.assign(2, 0);
        due("caseOf(0, 0)", x.caseOf(0, 0), 4);
        due("caseOf(0, 1)", x.caseOf(0, 1), 9);
        due("caseOf(0, 2)", x.caseOf(0, 2), 1);
        due("caseOf(1, 0)", x.caseOf(1, 0), 2);
        due("caseOf(1, 1)", x.caseOf(1, 1), 0);
        dueForAll("caseOf(_, 0)", c -> x.caseOf(c, 0), UNKNOWN, -1, 2, 20, LEAST, MOST);
        dueForAll("caseOf(0, _)", what -> x.caseOf(0, what), OUTSIDE, -1, 3, LEAST, MOST);
        due("caseOf(2, 3): UNKNOWN first", x.caseOf(2, 3), UNKNOWN);
    }

    // ---- what is done

    private static void seal() {
        about = "promise 8";
        CaseWheel x = told(TWO + ";bar 1 5");
        x.away(1, 1);
        assignAll(x, 3, 0);
        String before = look(x);
        dueForAll("seal", x::seal, OUTSIDE, 0, -1, LEAST);
        due("nothing changed", look(x), before);
        due("can be undone still", x.told(6), 4);
        due("seal(2147483647)", x.seal(MOST), 3);
        due("seal(1)", x.seal(1), 0);
        due("told(9)", x.told(9), 1);
        due("told(2)", x.told(2), 0);
        due("told(6)", x.told(6), 0);
        due("undo()", x.undo(), NOT);
        due("debts", debts(x), "0 0");
        due("still away", x.told(5), 2);
        due("still barred", x.judge(1, 2), 32);
        x.away(1, 0);
        x.assign(0, 0);
        x.refuse(0);
        due("barred by refuse()", x.judge(0, 2), 1);
        x.seal(1);
        due("barred behind seal()", x.judge(0, 2), 1);
        for (int want : new int[] {0, 0, 0, 1, 0, 0, 1, 1}) due("assign by seed 1", x.assign(0, 1), want);
    }

    private static void assign() {
        about = "promise 9";
        due("no judges", new CaseWheel().assign(0, 0), NOT);
        CaseWheel x = told(THREE + ";bar 0 7;bar 1 7");
        dueForAll("assign(_, 0)", s -> x.assign(s, 0), OUTSIDE, -1, 5, LEAST, MOST);
        dueForAll("assign(0, _)", p -> x.assign(0, p), OUTSIDE, -1, 10, LEAST, MOST);
        due("no turn yet", x.told(2), 0);
        int[] judges = {1, 1, 0, 1, 1, 0, 0, 1};
        for (int i = 0; i < 8; i++) due("assign, case " + i, x.assign(i % 5, i % 2), judges[i]);
        due("told(2)", x.told(2), 8);
        due("told(1)", x.told(1), 8);
        x.away(2, 1);
        due("all away or barred", x.assign(0, 7), NOT);
        due("no turn", x.told(2), 8);
        CaseWheel y = told(TWO + ";bar 0 3");
        due("judge 0 is barred", y.assign(0, 3), 1);
        due("turns until judge 1 comes", y.told(2), 4);
        CaseWheel z = told("judge 5;judge 1 e");
        for (int i = 0; i < 20; i++) z.assign(0, 0);
        due("a 21st case", z.assign(0, 0), FULL);
        due("a 21st case, OUTSIDE first", z.assign(5, 0), OUTSIDE);
        z.away(0, 1);
        z.away(1, 1);
        due("a 21st case, NOT first", z.assign(0, 0), NOT);
        CaseWheel v = told("judge 1 a;judge 3;rule versed");
        due("weights 1, 3: 135184 by 4 leaves 0", v.assign(1, 0), 0);
        due("weights 2, 3: 33817344 by 5 leaves 4", v.assign(0, 0), 1);
        due("weights 2, 3: 1323717730 by 5 leaves 0", v.assign(0, 0), 0);
    }

    /** Of 10, 2147483640 and above is beyond the last whole round. */
    private static void assignThrowsAway() {
        int[] thrown = {717860467, 1024925960, 111845375, 292819076, 1708212752, 1913638251, 1236431772, 1584200935};
        for (int seed : thrown) {
            CaseWheel x = told(THREE);
            x.seal(seed);
            x.assign(0, 0);
            due("turns by seed " + seed, x.told(2), 2);
        }
        CaseWheel x = told(THREE);
        x.seal(624307827);
        due("2147483639 by 10 leaves 9", x.assign(0, 0), 2);
        due("one turn", x.told(2), 1);
        CaseWheel y = told("judge 8;judge 8");
        y.seal(1584200935);
        due("2147483647 by 16 leaves 15", y.assign(0, 0), 1);
        due("nothing beyond whole rounds of 16", y.told(2), 1);
    }

    private static void assignOwes() {
        CaseWheel x = told(THREE);
        String[] due = {"3 -5 2", "6 -10 4", "-1 -5 6", "2 -10 8"};
        for (String debts : due) {
            x.assign(0, 0);
            due("debts", debts(x), debts);
        }
        CaseWheel y = told("judge 3;judge 4;away 0");
        y.assign(0, 0);
        due("one away owes nothing, and counts for nothing", debts(y), "0 0");
        y.away(0, 0);
        y.away(1, 1);
        y.assign(0, 0);
        due("again", debts(y), "0 0");
        CaseWheel z = told("judge 9;judge 9;judge 9;judge 9;judge 9;judge 9"
            + ";bar 1 0;bar 2 0;bar 3 0;bar 4 0;bar 5 0;bar 0 1;bar 2 1;bar 3 1;bar 4 1;bar 5 1");
        z.assign(0, 0);
        z.assign(0, 0);
        due("two cases", debts(z), "-90 18 18 18 18 18");
        z.assign(0, 0);
        due("-99 at least", debts(z), "-99 27 27 27 27 27");
        for (int i = 0; i < 8; i++) z.assign(0, 0);
        due("99 at most", debts(z), "-99 99 99 99 99 99");
        z.assign(0, 0);
        due("99 still", debts(z), "-99 99 99 99 99 99");
        due("judge 1 alone", z.assign(0, 1), 1);
        due("bounds only when both are done", debts(z), "-90 54 99 99 99 99");
    }

    private static void refuse() {
        about = "promise 10";
        CaseWheel x = told(TWO);
        due("no case", x.refuse(0), UNKNOWN);
        x.assign(3, 4);
        x.assign(3, 4);
        dueForAll("refuse", x::refuse, UNKNOWN, -1, 2, 20, LEAST, MOST);
        due("debts ahead", debts(x), "-2 2");
        due("refuse(0): drawn 0, then 1", x.refuse(0), 1);
        due("turns", x.told(2), 4);
        due("barred from then on", x.judge(0, 2), 16);
        due("debts of before stay", debts(x), "-1 1");
        due("the case's place stays", docketOf(x), "0d4j1.1d4j0.");
        due("all others are barred", x.refuse(0), NOT);
        due("case 1 is of judge 0, barred already", x.refuse(1), 1);
        due("docket", docketOf(x), "0d4j1.1d4j1.");
        String before = look(x);
        due("refuse(1)", x.refuse(1), NOT);
        due("nothing changed", look(x), before);
        CaseWheel y = told("judge 1");
        y.assign(0, 0);
        due("there are no others", y.refuse(0), NOT);
        due("not barred", y.judge(0, 2), 0);
        CaseWheel z = told(TWO);
        z.assign(0, 0);
        z.away(0, 1);
        due("one who is away refuses", z.refuse(0), 1);
        due("barred, too", z.judge(0, 2), 1);
        CaseWheel w = told(TWO + ";away 1");
        w.assign(0, 0);
        due("all others are away", w.refuse(0), NOT);
    }

    private static void away() {
        about = "promise 11";
        CaseWheel x = told(TWO);
        dueForAll("away(_, 1)", j -> x.away(j, 1), UNKNOWN, -1, 2, LEAST, MOST);
        dueForAll("away(0, _)", is -> x.away(0, is), OUTSIDE, -1, 2, LEAST, MOST);
        due("away(2, 2): UNKNOWN first", x.away(2, 2), UNKNOWN);
        due("away(0, 0) is so", x.away(0, 0), NOT);
        due("away(0, 1)", x.away(0, 1), 1);
        due("away(0, 1) is so", x.away(0, 1), NOT);
        due("judge(0, 3)", x.judge(0, 3), 1);
        due("told(5)", x.told(5), 1);
        due("only judge 1", x.assign(0, 0), 1);
        due("away(0, 0)", x.away(0, 0), 1);
        due("told(5)", x.told(5), 0);
        due("weight again", x.weight(0, 0), 1);
    }

    private static void undo() {
        about = "promise 12";
        CaseWheel x = told(TWO);
        String[] looks = new String[12];
        looks[0] = look(x);
        x.assign(0, 0);
        looks[1] = look(x);
        x.refuse(0);
        looks[2] = look(x);
        x.away(0, 1);
        looks[3] = look(x);
        for (int i = 3; i > 0; i--) {
            due("undo()", x.undo(), i - 1);
            due("as ahead of it", look(x), looks[i - 1]);
        }
        due("undo() of none", x.undo(), NOT);
        for (int i = 0; i < 11; i++) {
            looks[i] = look(x);
            x.assign(i % 5, i % 10);
            due("told(6)", x.told(6), Math.min(i + 1, 8));
        }
        x.assign(0, 10);
        x.away(0, 0);
        due("what was refused is not undone", x.told(6), 8);
        for (int i = 10; i > 2; i--) {
            due("undo()", x.undo(), i - 3);
            due("as ahead of case " + i, look(x), looks[i]);
        }
        due("the ninth", x.undo(), NOT);
        x.away(1, 1);
        due("undo() of away()", x.undo(), 0);
        due("as ahead of case 3", look(x), looks[3]);
    }

    private static void keepAndBack() {
        about = "promise 13";
        CaseWheel x = told(TWO);
        dueForAll("keep", x::keep, UNKNOWN, -1, 2, LEAST, MOST);
        x.seal(5);
        assignAll(x, 3, 2);
        x.refuse(1);
        x.away(0, 1);
        String first = look(x);
        due("keep(0)", x.keep(0), 3);
        due("keep() leaves what can be undone", x.told(6), 5);
        about = "promise 14";
        dueForAll("back", x::back, UNKNOWN, -1, 2, LEAST, MOST);
        due("back(1): nothing kept there", x.back(1), NOT);
        due("refused calls leave what can be undone", x.told(6), 5);
        x.away(0, 0);
        assignAll(x, 2, 3);
        String second = look(x);
        due("keep(1)", x.keep(1), 5);
        writeText(x, "whe");
        withSlip(x, 1, "both");
        x.seal(9);
        for (int i = 0; i < 6; i++) x.assign(4, 9);
        due("back(0) behind seal()", x.back(0), 3);
        due("as kept", look(x), first);
        due("nothing can be undone", x.undo(), NOT);
        due("text stays", x.told(7), 3);
        due("slips stay", x.named(1), 3);
        x.away(0, 0);
        due("back(1)", x.back(1), 5);
        due("as kept", look(x), second);
        due("nothing can be undone", x.told(6), 0);
        x.assign(0, 0);
        due("back(0) again", x.back(0), 3);
        due("as kept, still", look(x), first);
        x.seal(3);
        due("keep(0) anew", x.keep(0), 0);
        due("back(0)", x.back(0), 0);
        due("the later one", x.told(9), 3);
        x.erase();
        writeText(x, "wheels").wheel();
        due("a text with a fault leaves what is kept", x.back(1), 5);
    }

    // ---- what can be looked at

    private static void writing() {
        about = "promise 15";
        CaseWheel x = told(THREE);
        due("writing(0) of none", x.writing(0), NONE);
        dueForAll("writing", x::writing, OUTSIDE, -1, LEAST);
        x.assign(1, 7);
        x.assign(4, 0);
        x.assign(0, 9);
        due("the writing", docketOf(x), "0b7j1.1e0j1.2a9j0.");
        dueForAll("writing", x::writing, NONE, 18, 19, MOST);
        due("told(4)", x.told(4), 18);
        CaseWheel y = told("judge 1");
        assignAll(y, 20, 3);
        due("told(4) of 20", y.told(4), 130);
        due("numbers of two digits", docketOf(y).substring(54, 74), "9e3j0.10a3j0.11b3j0.");
        due("the end", docketOf(y).substring(116), "18d3j0.19e3j0.");
        due("writing(130)", y.writing(130), NONE);
    }

    private static void sealOf() {
        about = "promise 16";
        CaseWheel x = new CaseWheel();
        due("seal of 1", sealOf(x, 1), "pomdbafj");
        due("seal of 2147483647", sealOf(x, MOST), "gckfanfi");
        due("seal of 305419896", sealOf(x, 305419896), "aaaaaaaa");
        // 305419897 is 1 behind the mask, whose fifth turn is 2398689233, hexadecimal 8ef917d1.
        due("seal of 305419897", sealOf(x, 305419897), "iopjbhnb");
        dueForAll("sealOf(_, 0)", s -> x.sealOf(s, 0), OUTSIDE, 0, -1, LEAST);
        dueForAll("sealOf(1, _)", k -> x.sealOf(1, k), OUTSIDE, -1, 8, LEAST, MOST);
        due("the seed stays", x.told(9), 1);
    }

    private static void weight() {
        about = "promise 17";
        String[] rules = {"plain", "versed", "owing", "both"};
        // Debts are 3, -5, 2 behind one case; judges 0 and 2 are versed in a b and in c d e.
        int[][] due = {{3, 5, 2, 2}, {6, 5, 2, 4}, {6, 1, 4, 4}, {9, 1, 4, 6}};
        for (int rule = 0; rule < 4; rule++) {
            CaseWheel x = told(THREE + ";bar 0 9;bar 2 9;rule " + rules[rule]);
            x.assign(0, 9);
            due("debts", debts(x), "3 -5 2");
            due("weight(0, 1), " + rules[rule], x.weight(0, 1), due[rule][0]);
            due("weight(1, 1), " + rules[rule], x.weight(1, 1), due[rule][1]);
            due("weight(2, 1), " + rules[rule], x.weight(2, 1), due[rule][2]);
            due("weight(2, 4), " + rules[rule], x.weight(2, 4), due[rule][3]);
            x.away(0, 1);
            due("weight of one away", x.weight(0, 1), 0);
        }
        CaseWheel x = told(THREE);
        dueForAll("weight(_, 0)", j -> x.weight(j, 0), UNKNOWN, -1, 3, LEAST, MOST);
        dueForAll("weight(0, _)", s -> x.weight(0, s), OUTSIDE, -1, 5, LEAST, MOST);
        due("weight(3, 5): UNKNOWN first", x.weight(3, 5), UNKNOWN);
    }

    private static void odds() {
        about = "promise 18";
        CaseWheel x = told(THREE + ";bar 1 4;bar 0 6;bar 1 6");
        due("3 by 10, above", x.odds(0, 0, 0, 0), 3);
        due("3 by 10, below", x.odds(0, 0, 0, 1), 10);
        due("5 by 10, above", x.odds(1, 0, 0, 0), 1);
        due("5 by 10, below", x.odds(1, 0, 0, 1), 2);
        due("3 by 5: the barred one does not count", x.odds(0, 0, 4, 1), 5);
        due("barred, above", x.odds(1, 0, 4, 0), 0);
        due("barred, below", x.odds(1, 0, 4, 1), 1);
        due("alone, above", x.odds(2, 0, 6, 0), 1);
        due("alone, below", x.odds(2, 0, 6, 1), 1);
        x.away(0, 1);
        due("away, above", x.odds(0, 0, 0, 0), 0);
        due("away, below", x.odds(0, 0, 0, 1), 1);
        due("2 by 7", x.odds(2, 0, 0, 1), 7);
        dueForAll("odds(_, 0, 0, 0)", j -> x.odds(j, 0, 0, 0), UNKNOWN, -1, 3, LEAST, MOST);
        dueForAll("odds(0, _, 0, 0)", s -> x.odds(0, s, 0, 0), OUTSIDE, -1, 5, LEAST, MOST);
        dueForAll("odds(0, 0, _, 0)", p -> x.odds(0, 0, p, 0), OUTSIDE, -1, 10, LEAST, MOST);
        dueForAll("odds(0, 0, 0, _)", part -> x.odds(0, 0, 0, part), OUTSIDE, -1, 2, LEAST, MOST);
        due("UNKNOWN first", x.odds(3, 5, 10, 2), UNKNOWN);
        x.away(2, 1);
        CaseWheel y = told(TWO);
        due("1 by 2, above", y.odds(1, 0, 0, 0), 1);
        due("1 by 2, below", y.odds(1, 0, 0, 1), 2);
        due("all away or barred", x.odds(2, 0, 6, 0), NOT);
        due("OUTSIDE first", x.odds(2, 0, 6, 2), OUTSIDE);
        due("nothing turned", x.told(2), 0);
    }

    private static void next() {
        about = "promise 19";
        CaseWheel x = told(TWO + ";bar 0 3;bar 0 5;bar 1 5");
        dueForAll("next(_, 0)", s -> x.next(s, 0), OUTSIDE, -1, 5, LEAST, MOST);
        dueForAll("next(0, _)", p -> x.next(0, p), OUTSIDE, -1, 10, LEAST, MOST);
        due("all barred", x.next(0, 5), NOT);
        due("no judges", new CaseWheel().next(0, 0), NOT);
        for (int i = 0; i < 20; i++) {
            int party = i % 4;
            int foretold = x.next(i % 5, party);
            due("next() again", x.next(i % 5, party), foretold);
            due("who is assigned", x.assign(i % 5, party), foretold);
        }
        due("told(6)", x.told(6), 8);
        int turns = x.told(2);
        due("next() of a full docket", x.next(0, 3), 1);
        due("nothing turned", x.told(2), turns);
    }

    private static void count() {
        about = "promise 20";
        CaseWheel x = told(THREE + ";rule both");
        due("count(1, 0) of none", x.count(1, 0), 0);
        due("count(1, 1) of none", x.count(1, 1), 0);
        x.seal(42);
        for (int i = 0; i < 15; i++) x.assign(i % 5, i % 4);
        due("count by its own seed", x.count(42, 0), 15);
        due("turns by its own seed", x.count(42, 1), x.told(2));
        for (int seed : new int[] {1, 2, 3, 300, 1584200935, MOST}) dueAsDrawn(x, THREE + ";rule both", seed);
        dueForAll("count(_, 0)", s -> x.count(s, 0), OUTSIDE, 0, -1, LEAST);
        dueForAll("count(1, _)", what -> x.count(1, what), OUTSIDE, -1, 2, LEAST, MOST);
        String before = look(x);
        x.count(7, 0);
        due("nothing changed", look(x), before);
        CaseWheel y = told(TWO);
        y.assign(0, 0);
        y.refuse(0);
        due("barred as now: drawn 0, 0, 0, 1", y.count(1, 0), 1);
        due("four turns", y.count(1, 1), 4);
        y.assign(0, 1);
        y.away(1, 1);
        due("nobody for case 0", y.count(1, 0), NOT);
        due("OUTSIDE first", y.count(0, 0), OUTSIDE);
        y.away(1, 0);
        y.away(0, 1);
        due("judge 1 alone", y.count(1, 0), y.judge(1, 5));
        due("a turn each", y.count(1, 1), 2);
    }

    /** Another wheel that really draws the same cases tells what count() must. */
    private static void dueAsDrawn(CaseWheel x, String text, int seed) {
        CaseWheel anew = told(text);
        anew.seal(seed);
        int same = 0;
        for (int i = 0; i < x.told(1); i++) {
            if (anew.assign(x.caseOf(i, 0), x.caseOf(i, 1)) == x.caseOf(i, 2)) same++;
        }
        due("count(" + seed + ", 0)", x.count(seed, 0), same);
        due("count(" + seed + ", 1)", x.count(seed, 1), anew.told(2));
    }

    private static void like() {
        about = "promise 21";
        CaseWheel x = told(THREE);
        dueForAll("like", x::like, OUTSIDE, 0, -1, 21, LEAST, MOST);
        due("like(1) of none", x.like(1), NONE);
        x.seal(100000);
        for (int i = 0; i < 12; i++) x.assign(i % 5, i % 3);
        String before = look(x);
        for (int n = 1; n <= 20; n++) {
            int least = NONE;
            for (int seed = 300; seed >= 1; seed--) if (x.count(seed, 0) >= n) least = seed;
            due("like(" + n + ")", x.like(n), least);
        }
        due("nothing changed", look(x), before);
        // The last seed that is looked at: a docket that seed 300 draws, and none below it.
        for (int seed : new int[] {300, 301}) {
            CaseWheel y = told(THREE);
            y.seal(seed);
            for (int i = 0; i < 20; i++) y.assign(i % 5, 0);
            due("like(20) for seed " + seed, y.like(20), seed == 300 ? 300 : NONE);
        }
        CaseWheel z = told(TWO);
        z.assign(0, 0);
        due("like(1): seed 1", z.like(1), 1);
        due("like(2): more than there are", z.like(2), NONE);
        z.away(0, 1);
        z.away(1, 1);
        due("nobody", z.like(1), NOT);
        due("nobody, more than there are", z.like(2), NOT);
        due("OUTSIDE first", z.like(0), OUTSIDE);
    }

    // ---- slips

    private static void slip() {
        about = "promise 22";
        CaseWheel x = new CaseWheel();
        dueForAll("slip", x::slip, UNKNOWN, -1, 3, LEAST, MOST);
        dueForAll("slip", x::slip, 0, 0, 1, 2);
        withSlip(x, 2, "abc");
        due("slip(2) anew", x.slip(2), 0);
        due("it is empty", x.drop(2), 0);
    }

    private static void insert() {
        about = "promise 23";
        CaseWheel x = new CaseWheel();
        due("missing", x.insert(0, 0, 'a'), NULL);
        due("missing, place", x.insert(0, 5, 'a'), NULL);
        due("missing, OUTSIDE first", x.insert(0, 0, 'A'), OUTSIDE);
        x.slip(0);
        dueForAll("insert(_, 0, a)", s -> x.insert(s, 0, 'a'), UNKNOWN, -1, 3, LEAST, MOST);
        due("UNKNOWN first", x.insert(3, 0, 'A'), UNKNOWN);
        dueForAll("insert(0, 0, _)", l -> x.insert(0, 0, l), OUTSIDE,
            'a' - 1, 'z' + 1, '0' - 1, '9' + 1, '.' - 1, 'A', ' ', -1, 256 + 'a', LEAST, MOST);
        dueForAll("insert(0, _, a)", i -> x.insert(0, i, 'a'), INDEX, -1, 1, LEAST, MOST);
        due("OUTSIDE ahead of INDEX", x.insert(0, 1, 'A'), OUTSIDE);
        due("a", x.insert(0, 0, 'a'), 1);
        due("z at the end", x.insert(0, 1, 'z'), 2);
        due("0 at the front", x.insert(0, 0, '0'), 3);
        due("9 within", x.insert(0, 1, '9'), 4);
        due("a point within", x.insert(0, 3, '.'), 5);
        due("the slip", slipOf(x, 0), "09a.z");
        for (int i = 6; i <= 40; i++) due("letter " + i, x.insert(0, i - 1, 'b'), i);
        due("letter 41", x.insert(0, 40, 'b'), ROOM);
        due("letter 41 at the front", x.insert(0, 0, 'b'), ROOM);
        due("INDEX ahead of ROOM", x.insert(0, 41, 'b'), INDEX);
        due("told(8)", x.told(8), 40);
    }

    private static void cut() {
        about = "promise 24";
        CaseWheel x = new CaseWheel();
        due("missing", x.cut(1, 0, 0), NULL);
        due("missing, no span", x.cut(1, 2, 1), NULL);
        withSlip(x, 1, "abcdef");
        dueForAll("cut(_, 0, 0)", s -> x.cut(s, 0, 0), UNKNOWN, -1, 3, LEAST, MOST);
        due("i below 0", x.cut(1, -1, 2), INDEX);
        due("j below i", x.cut(1, 3, 2), INDEX);
        due("beyond the end", x.cut(1, 0, 7), INDEX);
        due("all beyond", x.cut(1, 7, 7), INDEX);
        due("far beyond", x.cut(1, LEAST, MOST), INDEX);
        due("nothing cut", x.cut(1, 6, 6), 6);
        due("nothing cut within", x.cut(1, 3, 3), 6);
        due("within", x.cut(1, 1, 3), 4);
        due("left", slipOf(x, 1), "adef");
        due("the end", x.cut(1, 3, 4), 3);
        due("left", slipOf(x, 1), "ade");
        due("all", x.cut(1, 0, 3), 0);
        due("it is there still", x.cut(1, 0, 0), 0);
        withSlip(x, 1, "abcde".repeat(8));
        due("within a full one", x.cut(1, 5, 35), 10);
        due("left", slipOf(x, 1), "abcdeabcde");
    }

    private static void join() {
        about = "promise 25";
        CaseWheel x = withSlip(withSlip(new CaseWheel(), 0, "ab1"), 1, ".c");
        due("join(0, 1)", x.join(0, 1), 5);
        due("slip 0", slipOf(x, 0), "ab1.c");
        due("slip 1 stays", slipOf(x, 1), ".c");
        due("join(0, 0)", x.join(0, 0), 10);
        due("slip 0", slipOf(x, 0), "ab1.cab1.c");
        due("join(0, 2): the other is missing", x.join(0, 2), NULL);
        due("join(2, 0): it is missing", x.join(2, 0), NULL);
        dueForAll("join(_, 0)", s -> x.join(s, 0), UNKNOWN, -1, 3, LEAST, MOST);
        dueForAll("join(0, _)", s -> x.join(0, s), UNKNOWN, -1, 3, LEAST, MOST);
        due("UNKNOWN ahead of NULL", x.join(2, 3), UNKNOWN);
        due("20", x.join(0, 0), 20);
        due("40", x.join(0, 0), 40);
        due("42", x.join(0, 1), ROOM);
        due("80", x.join(0, 0), ROOM);
        due("nothing changed", slipOf(x, 0), "ab1.c".repeat(8));
        x.slip(2);
        due("40 and none", x.join(0, 2), 40);
    }

    private static void letter() {
        about = "promise 26";
        CaseWheel x = withSlip(new CaseWheel(), 2, "z.7");
        due("letter(2, 0)", x.letter(2, 0), 122);
        due("letter(2, 1)", x.letter(2, 1), 46);
        due("letter(2, 2)", x.letter(2, 2), 55);
        dueForAll("letter(2, _)", k -> x.letter(2, k), INDEX, -1, 3, LEAST, MOST);
        dueForAll("letter(_, 0)", s -> x.letter(s, 0), UNKNOWN, -1, 3, LEAST, MOST);
        due("missing", x.letter(0, -1), NULL);
    }

    private static void find() {
        about = "promise 27";
        CaseWheel x = told("judge 1");
        assignAll(x, 12, 3);
        due("missing", x.find(0, 0), NULL);
        due("OUTSIDE ahead of NULL", x.find(0, 4), OUTSIDE);
        withSlip(x, 0, "1b3j0.");
        due("first in the writing", x.find(0, 0), 6);
        withSlip(x, 0, "11b3j0.");
        due("at the end of the writing", x.find(0, 0), 67);
        withSlip(x, 0, "b3j1");
        due("not in the writing", x.find(0, 0), NONE);
        withSlip(x, 0, ".c");
        withSlip(x, 1, "a.b.c.c");
        due("in slip 1", x.find(0, 2), 3);
        due("in itself", x.find(0, 1), 0);
        due("a longer one", x.find(1, 1), NONE);
        due("in slip 2, missing", x.find(0, 3), NULL);
        x.slip(2);
        due("in an empty one", x.find(0, 3), NONE);
        due("an empty one", x.find(2, 2), 0);
        due("an empty one in the writing", x.find(2, 0), 0);
        due("an empty one in itself", x.find(2, 3), 0);
        withSlip(x, 2, "aab");
        withSlip(x, 1, "aaab");
        due("it overlaps itself", x.find(2, 2), 1);
        withSlip(x, 2, "ab");
        x.cut(1, 3, 4);
        due("not in what was cut", x.find(2, 2), NONE);
        dueForAll("find(_, 0)", s -> x.find(s, 0), UNKNOWN, -1, 3, LEAST, MOST);
        dueForAll("find(0, _)", what -> x.find(0, what), OUTSIDE, -1, 4, LEAST, MOST);
        due("UNKNOWN first", x.find(3, 4), UNKNOWN);
    }

    private static void value() {
        about = "promise 28";
        CaseWheel x = new CaseWheel();
        due("missing", x.value(0), NULL);
        dueForAll("value", x::value, UNKNOWN, -1, 3, LEAST, MOST);
        String[] numbers = {"0", "7", "10", "0000", "0417", "9999"};
        for (String n : numbers) due("value of " + n, withSlip(x, 0, n).value(0), Integer.parseInt(n));
        for (String n : new String[] {"", "10000", "00001", "1.", ".1", "1a", "a", "."}) {
            due("value of " + n, withSlip(x, 0, n).value(0), NUMBER);
        }
    }

    private static void named() {
        about = "promise 29";
        CaseWheel x = new CaseWheel();
        due("missing", x.named(1), NULL);
        dueForAll("named", x::named, UNKNOWN, -1, 3, LEAST, MOST);
        String[] rules = {"plain", "versed", "owing", "both"};
        for (int i = 0; i < 4; i++) due(rules[i], withSlip(x, 1, rules[i]).named(1), i);
        for (String n : new String[] {"", "plai", "plains", "slain", "bot", "bote", "moth", "0", "both."}) {
            due("named of " + n, withSlip(x, 1, n).named(1), NONE);
        }
    }

    private static void drop() {
        about = "promise 30";
        CaseWheel x = withSlip(withSlip(new CaseWheel(), 0, "abc"), 1, "d");
        dueForAll("drop", x::drop, UNKNOWN, -1, 3, LEAST, MOST);
        due("drop(0)", x.drop(0), 3);
        due("drop(0) again", x.drop(0), NULL);
        due("letter(0, 0)", x.letter(0, 0), NULL);
        due("told(8)", x.told(8), 1);
        due("drop(2)", x.drop(2), NULL);
        x.slip(0);
        due("drop(0) of an empty one", x.drop(0), 0);
    }

    private static void told() {
        about = "promise 31";
        CaseWheel x = told(THREE + ";away 2;rule owing");
        x.seal(MOST);
        assignAll(x, 11, 0);
        x.away(0, 1);
        writeText(x, "rule");
        withSlip(withSlip(x, 0, "abc"), 2, "12345");
        due("judges", x.told(0), 3);
        due("cases", x.told(1), 11);
        due("rule", x.told(3), 2);
        due("letters of the writing", x.told(4), 67);
        due("away", x.told(5), 5);
        due("can be undone", x.told(6), 8);
        due("letters of the text", x.told(7), 4);
        due("letters of slips", x.told(8), 8);
        due("seed", x.told(9), MOST);
        CaseWheel y = told(TWO + ";bar 0 0");
        y.assign(0, 0);
        due("turns", y.told(2), 4);
        dueForAll("told", x::told, OUTSIDE, -1, 10, LEAST, MOST);
    }
}
