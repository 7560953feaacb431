import java.util.Arrays;

/**
 * A wheel for cases: new cases are drawn to judges from a sealed seed, each judge by its weight.
 * What every call promises stands in ../shared/DOC.md; words in capitals there are used here.
 */
public final class CaseWheel {
    public static final int NONE = -1, UNKNOWN = -2, OUTSIDE = -3, NOT = -4, FULL = -5;
    public static final int NULL = -11, INDEX = -12, ROOM = -13, NUMBER = -14;

    private static final int MOST_JUDGES = 6, MOST_STRENGTH = 9, SUBJECTS = 5, PARTIES = 10;
    private static final int MOST_CASES = 20, MOST_DEBT = 99, MOST_UNDONE = 8, KEPT = 2;
    private static final int MOST_LETTERS = 200, MOST_CLAUSES = 24, MOST_DIGITS = 2;
    private static final int SLIPS = 3, SLIP_ROOM = 40, VALUE_DIGITS = 4;
    // Cases 0 to 9 take six letters each, 10 to 19 seven.
    private static final int WRITING_ROOM = 130;
    private static final int RULES = 4, PLAIN = 0, BY_VERSED = 1, BY_DEBT = 2;
    private static final int FIRST_SEED = 1, LAST_LIKE_SEED = 300;
    private static final int SEAL_LETTERS = 8, SEAL_MASK = 305419896, SEAL_TURNS = 5;
    private static final long HALF_RANGE = 2147483648L;
    // No run of the chain comes near this many turns without an end: it only bounds the loops.
    private static final int MANY = 1000000;

    private final Letters text = new Letters(MOST_LETTERS);
    private final Letters docket = new Letters(WRITING_ROOM);
    private final Letters[] slips = new Letters[SLIPS];
    private final boolean[] isThere = new boolean[SLIPS];
    private final TextReader reader = new TextReader(text);
    // As the texts told it, without what calls did since: a later text goes on from here.
    private final State asTold = new State();
    private final State asRead = new State();
    private final State now = new State();
    private final State foretold = new State();
    private final History history = new History();
    private final State[] kept = new State[KEPT];
    private final boolean[] isKept = new boolean[KEPT];

    public CaseWheel() {
        for (int i = 0; i < SLIPS; i++) {
            slips[i] = new Letters(SLIP_ROOM);
        }
        for (int i = 0; i < KEPT; i++) {
            kept[i] = new State();
        }
    }

    // ---- what is told

    public int write(int letter) {
        if (letter < 0 || letter > 255) {
            return OUTSIDE;
        }
        if (!text.hasRoomFor(1)) {
            return FULL;
        }
        text.putAt(text.length, letter);
        return text.length;
    }

    public int erase() {
        int had = text.length;
        text.length = 0;
        return had;
    }

    public int fault() {
        return readText();
    }

    public int wheel() {
        if (readText() != NONE) {
            return NOT;
        }
        asTold.copyFrom(asRead);
        now.copyFrom(asTold);
        history.forget();
        forgetKept();
        dropAllSlips();
        text.length = 0;
        return reader.clauses;
    }

    public int judge(int judge, int what) {
        if (!now.hasJudge(judge)) {
            return UNKNOWN;
        }
        switch (what) {
            case 0: return now.strength[judge];
            case 1: return now.versed[judge];
            case 2: return now.barred[judge];
            case 3: return now.isAway(judge) ? 1 : 0;
            case 4: return now.debt[judge] + 100;
            case 5: return now.casesOf(judge);
            default: return OUTSIDE;
        }
    }

    public int caseOf(int number, int what) {
        if (!now.hasCase(number)) {
            return UNKNOWN;
        }
        switch (what) {
            case 0: return now.subjectOf[number];
            case 1: return now.partyOf[number];
            case 2: return now.judgeOf[number];
            default: return OUTSIDE;
        }
    }

    // ---- what is done

    public int seal(int seed) {
        if (!isSeed(seed)) {
            return OUTSIDE;
        }
        int had = now.cases;
        now.startAnew(seed);
        history.forget();
        return had;
    }

    public int assign(int subject, int party) {
        if (!isSubject(subject) || !isParty(party)) {
            return OUTSIDE;
        }
        if (!now.hasSomeoneFor(party, NONE)) {
            return NOT;
        }
        if (now.cases >= MOST_CASES) {
            return FULL;
        }
        history.remember(now);
        return now.addCase(subject, party);
    }

    public int refuse(int number) {
        if (!now.hasCase(number)) {
            return UNKNOWN;
        }
        if (!now.hasSomeoneFor(now.partyOf[number], now.judgeOf[number])) {
            return NOT;
        }
        history.remember(now);
        return now.drawCaseAgain(number);
    }

    public int away(int judge, int is) {
        if (!now.hasJudge(judge)) {
            return UNKNOWN;
        }
        if (is < 0 || is > 1) {
            return OUTSIDE;
        }
        if (now.isAway(judge) == (is == 1)) {
            return NOT;
        }
        history.remember(now);
        now.away ^= 1 << judge;
        return 1;
    }

    public int undo() {
        if (history.size < 1) {
            return NOT;
        }
        history.takeBack(now);
        return history.size;
    }

    public int keep(int k) {
        if (k < 0 || k >= KEPT) {
            return UNKNOWN;
        }
        kept[k].copyFrom(now);
        isKept[k] = true;
        return now.cases;
    }

    public int back(int k) {
        if (k < 0 || k >= KEPT) {
            return UNKNOWN;
        }
        if (!isKept[k]) {
            return NOT;
        }
        now.copyFrom(kept[k]);
        history.forget();
        return now.cases;
    }

    // ---- what can be looked at

    public int writing(int k) {
        if (k < 0) {
            return OUTSIDE;
        }
        writeDocket();
        return k < docket.length ? docket.row[k] : NONE;
    }

    public int sealOf(int seed, int k) {
        if (!isSeed(seed) || k < 0 || k >= SEAL_LETTERS) {
            return OUTSIDE;
        }
        int bits = seed ^ SEAL_MASK;
        for (int i = 0; i < SEAL_TURNS; i++) {
            bits = turned(bits);
        }
        int lowerLetters = SEAL_LETTERS - 1 - k;
        return 'a' + (bits >>> 4 * lowerLetters & 15);
    }

    public int weight(int judge, int subject) {
        if (!now.hasJudge(judge)) {
            return UNKNOWN;
        }
        return isSubject(subject) ? now.weightOf(judge, subject) : OUTSIDE;
    }

    public int odds(int judge, int subject, int party, int part) {
        if (!now.hasJudge(judge)) {
            return UNKNOWN;
        }
        if (!isSubject(subject) || !isParty(party) || part < 0 || part > 1) {
            return OUTSIDE;
        }
        if (!now.hasSomeoneFor(party, NONE)) {
            return NOT;
        }
        if (!now.isFreeFor(judge, party)) {
            return part;
        }
        int own = now.weightOf(judge, subject);
        int all = now.weightsFreeFor(subject, party);
        int divisor = commonDivisor(own, all);
        return (part == 0 ? own : all) / divisor;
    }

    public int next(int subject, int party) {
        if (!isSubject(subject) || !isParty(party)) {
            return OUTSIDE;
        }
        if (!now.hasSomeoneFor(party, NONE)) {
            return NOT;
        }
        foretold.copyFrom(now);
        return foretold.drawJudge(subject, party);
    }

    public int count(int seed, int what) {
        if (!isSeed(seed) || what < 0 || what > 1) {
            return OUTSIDE;
        }
        if (!now.everyCaseHasSomeone()) {
            return NOT;
        }
        foretold.copyFrom(now);
        int same = recountBy(seed, 0);
        return what == 0 ? same : foretold.turns;
    }

    public int like(int n) {
        if (n < 1 || n > MOST_CASES) {
            return OUTSIDE;
        }
        if (!now.everyCaseHasSomeone()) {
            return NOT;
        }
        if (n > now.cases) {
            return NONE;
        }
        foretold.copyFrom(now);
        for (int seed = FIRST_SEED; seed <= LAST_LIKE_SEED; seed++) {
            if (recountBy(seed, n) >= n) {
                return seed;
            }
        }
        return NONE;
    }

    // ---- slips

    public int slip(int slip) {
        if (!isSlip(slip)) {
            return UNKNOWN;
        }
        slips[slip].length = 0;
        isThere[slip] = true;
        return 0;
    }

    public int insert(int slip, int i, int letter) {
        if (!isSlip(slip)) {
            return UNKNOWN;
        }
        if (!isSlipLetter(letter)) {
            return OUTSIDE;
        }
        if (!isThere[slip]) {
            return NULL;
        }
        if (i < 0 || i > slips[slip].length) {
            return INDEX;
        }
        if (!slips[slip].hasRoomFor(1)) {
            return ROOM;
        }
        slips[slip].putAt(i, letter);
        return slips[slip].length;
    }

    public int cut(int slip, int i, int j) {
        if (!isSlip(slip)) {
            return UNKNOWN;
        }
        if (!isThere[slip]) {
            return NULL;
        }
        if (i < 0 || j < i || j > slips[slip].length) {
            return INDEX;
        }
        slips[slip].removeSpan(i, j);
        return slips[slip].length;
    }

    public int join(int slip, int other) {
        if (!isSlip(slip) || !isSlip(other)) {
            return UNKNOWN;
        }
        if (!isThere[slip] || !isThere[other]) {
            return NULL;
        }
        if (!slips[slip].hasRoomFor(slips[other].length)) {
            return ROOM;
        }
        slips[slip].appendAll(slips[other]);
        return slips[slip].length;
    }

    public int letter(int slip, int k) {
        if (!isSlip(slip)) {
            return UNKNOWN;
        }
        if (!isThere[slip]) {
            return NULL;
        }
        if (k < 0 || k >= slips[slip].length) {
            return INDEX;
        }
        return slips[slip].row[k];
    }

    public int find(int slip, int what) {
        if (!isSlip(slip)) {
            return UNKNOWN;
        }
        if (what < 0 || what > SLIPS) {
            return OUTSIDE;
        }
        if (!isThere[slip]) {
            return NULL;
        }
        if (what == 0) {
            writeDocket();
            return docket.placeOf(slips[slip]);
        }
        if (!isThere[what - 1]) {
            return NULL;
        }
        return slips[what - 1].placeOf(slips[slip]);
    }

    public int value(int slip) {
        if (!isSlip(slip)) {
            return UNKNOWN;
        }
        if (!isThere[slip]) {
            return NULL;
        }
        int number = slips[slip].numberAt(0, slips[slip].length, VALUE_DIGITS);
        return number == NONE ? NUMBER : number;
    }

    public int named(int slip) {
        if (!isSlip(slip)) {
            return UNKNOWN;
        }
        if (!isThere[slip]) {
            return NULL;
        }
        return slips[slip].ruleAt(0, slips[slip].length);
    }

    public int drop(int slip) {
        if (!isSlip(slip)) {
            return UNKNOWN;
        }
        if (!isThere[slip]) {
            return NULL;
        }
        isThere[slip] = false;
        return slips[slip].length;
    }

    public int told(int what) {
        switch (what) {
            case 0: return now.judges;
            case 1: return now.cases;
            case 2: return now.turns;
            case 3: return now.rule;
            case 4: return lettersOfWriting();
            case 5: return now.away;
            case 6: return history.size;
            case 7: return text.length;
            case 8: return lettersOfSlips();
            case 9: return now.seed;
            default: return OUTSIDE;
        }
    }

    // ---- helpers of the calls

    private static boolean isSeed(int seed) {
        return seed >= FIRST_SEED;
    }

    private static boolean isSubject(int subject) {
        return subject >= 0 && subject < SUBJECTS;
    }

    private static boolean isParty(int party) {
        return party >= 0 && party < PARTIES;
    }

    private static boolean isSlip(int slip) {
        return slip >= 0 && slip < SLIPS;
    }

    private static boolean isDigit(int letter) {
        return letter >= '0' && letter <= '9';
    }

    private static boolean isSmallLetter(int letter) {
        return letter >= 'a' && letter <= 'z';
    }

    private static boolean isSlipLetter(int letter) {
        return isSmallLetter(letter) || isDigit(letter) || letter == '.';
    }

    private static int turned(int bits) {
        int x = bits;
        x ^= x << 13;
        x ^= x >>> 17;
        x ^= x << 5;
        return x;
    }

    private static String ruleName(int rule) {
        switch (rule) {
            case 0: return "plain";
            case 1: return "versed";
            case 2: return "owing";
            default: return "both";
        }
    }

    /** At least 1, so that it can always divide. */
    private static int commonDivisor(int one, int other) {
        int a = Math.max(one, 1);
        int b = Math.max(other, 0);
        for (int i = 0; i < MANY && b > 0; i++) {
            int left = a % b;
            a = b;
            b = left;
        }
        return a;
    }

    /** The clauses are done in a copy, so that a text with a fault leaves nothing behind. */
    private int readText() {
        asRead.copyFrom(asTold);
        return reader.readInto(asRead);
    }

    private void forgetKept() {
        for (int i = 0; i < KEPT; i++) {
            isKept[i] = false;
        }
    }

    private void dropAllSlips() {
        for (int i = 0; i < SLIPS; i++) {
            isThere[i] = false;
        }
    }

    /**
     * How many of the docket's cases a seed gives to the same judge; foretold is a copy of now.
     * It stops early when so many as are wanted can't be reached any more: a recount is dear.
     */
    private int recountBy(int seed, int wanted) {
        int same = 0;
        foretold.startAnew(seed);
        for (int i = 0; i < now.cases && same + now.cases - i >= wanted; i++) {
            if (foretold.addCase(now.subjectOf[i], now.partyOf[i]) == now.judgeOf[i]) {
                same++;
            }
        }
        return same;
    }

    private void writeDocket() {
        docket.length = 0;
        for (int i = 0; i < now.cases; i++) {
            if (i >= 10) {
                docket.append('0' + i / 10);
            }
            docket.append('0' + i % 10);
            docket.append('a' + now.subjectOf[i]);
            docket.append('0' + now.partyOf[i]);
            docket.append('j');
            docket.append('0' + now.judgeOf[i]);
            docket.append('.');
        }
    }

    private int lettersOfWriting() {
        writeDocket();
        return docket.length;
    }

    private int lettersOfSlips() {
        int letters = 0;
        for (int i = 0; i < SLIPS; i++) {
            if (isThere[i]) {
                letters += slips[i].length;
            }
        }
        return letters;
    }

    /** A row of letters that has room for so many and no more. */
    private static final class Letters {
        final int[] row;
        int length;

        Letters(int room) {
            row = new int[Math.max(room, 0)];
        }

        boolean hasRoomFor(int more) {
            return length + more <= row.length;
        }

        void append(int letter) {
            putAt(length, letter);
        }

        void putAt(int place, int letter) {
            if (place < 0 || place > length || !hasRoomFor(1)) {
                return;
            }
            System.arraycopy(row, place, row, place + 1, length - place);
            row[place] = letter;
            length++;
        }

        void removeSpan(int from, int to) {
            if (from < 0 || to < from || to > length) {
                return;
            }
            System.arraycopy(row, to, row, from, length - to);
            length -= to - from;
        }

        void appendAll(Letters other) {
            // Kept ahead of the copy: the other one may be this one.
            int more = other.length;
            if (!hasRoomFor(more)) {
                return;
            }
            System.arraycopy(other.row, 0, row, length, more);
            length += more;
        }

        int placeOf(Letters wanted) {
            for (int place = 0; place + wanted.length <= length; place++) {
                if (standsAt(place, wanted)) {
                    return place;
                }
            }
            return NONE;
        }

        private boolean standsAt(int place, Letters wanted) {
            for (int i = 0; i < wanted.length; i++) {
                if (row[place + i] != wanted.row[i]) {
                    return false;
                }
            }
            return true;
        }

        boolean isWordAt(int from, int to, String word) {
            if (from < 0 || to > length || to - from != word.length()) {
                return false;
            }
            for (int i = 0; i < word.length(); i++) {
                if (row[from + i] != word.charAt(i)) {
                    return false;
                }
            }
            return true;
        }

        /** The rule whose name these letters are, or NONE. */
        int ruleAt(int from, int to) {
            for (int rule = 0; rule < RULES; rule++) {
                if (isWordAt(from, to, ruleName(rule))) {
                    return rule;
                }
            }
            return NONE;
        }

        /** The whole number that these letters are, of one to so many digits alone, or NONE. */
        int numberAt(int from, int to, int mostDigits) {
            if (from < 0 || to > length || to <= from || to - from > mostDigits) {
                return NONE;
            }
            int number = 0;
            for (int i = from; i < to; i++) {
                int digit = row[i] - '0';
                if (digit < 0 || digit > 9) {
                    return NONE;
                }
                number = 10 * number + digit;
            }
            return number;
        }
    }

    /** Reads a text token by token, to its first fault. */
    private static final class TextReader {
        static final int END = 0, WORD = 1, DIGITS = 2, OTHER = 3;

        final Letters text;
        int kind;
        int start;
        int end;
        int clauses;

        TextReader(Letters text) {
            this.text = text;
        }

        /** Does the clauses one by one: where the fault is, or NONE. */
        int readInto(State state) {
            end = 0;
            clauses = 0;
            for (int i = 0; i < MOST_CLAUSES; i++) {
                step();
                if (!readClause(state)) {
                    return start;
                }
                clauses++;
                if (kind == END) {
                    return NONE;
                }
                if (!isOther(';')) {
                    return start;
                }
            }
            // A ; behind the last clause that can be has no clause to be ahead of.
            return start;
        }

        private void step() {
            start = end;
            while (start < text.length && text.row[start] == ' ') {
                start++;
            }
            end = start;
            if (start >= text.length) {
                kind = END;
            } else if (isSmallLetter(text.row[start])) {
                kind = WORD;
                while (end < text.length && isSmallLetter(text.row[end])) {
                    end++;
                }
            } else if (isDigit(text.row[start])) {
                kind = DIGITS;
                while (end < text.length && isDigit(text.row[end])) {
                    end++;
                }
            } else {
                kind = OTHER;
                end++;
            }
        }

        private boolean isOther(int letter) {
            return kind == OTHER && start < text.length && text.row[start] == letter;
        }

        private boolean isWord(String word) {
            return kind == WORD && text.isWordAt(start, end, word);
        }

        /** The number of this token, if it is one within its bounds, or NONE. */
        private int numberWithin(int least, int most) {
            int number = kind == DIGITS ? text.numberAt(start, end, MOST_DIGITS) : NONE;
            return number >= least && number <= most ? number : NONE;
        }

        /** If it is true, the token is the one behind the clause, else the one at fault. */
        private boolean readClause(State state) {
            if (isWord("wheel")) {
                state.clearAll();
                step();
                return true;
            }
            if (isWord("judge")) {
                return readJudge(state);
            }
            if (isWord("bar")) {
                return readBar(state);
            }
            if (isWord("away")) {
                return readAway(state);
            }
            return isWord("rule") && readRule(state);
        }

        private boolean readJudge(State state) {
            if (state.judges >= MOST_JUDGES) {
                return false;
            }
            step();
            int strength = numberWithin(1, MOST_STRENGTH);
            if (strength == NONE) {
                return false;
            }
            step();
            int versed = 0;
            if (kind == WORD) {
                versed = versedTold();
                if (versed == 0) {
                    return false;
                }
                step();
            }
            state.addJudge(strength, versed);
            return true;
        }

        /** The subjects of this word as bits, or 0 if it does not tell some. */
        private int versedTold() {
            int versed = 0;
            for (int i = start; i < end; i++) {
                int subject = text.row[i] - 'a';
                if (!isSubject(subject) || (versed >> subject & 1) == 1) {
                    return 0;
                }
                versed |= 1 << subject;
            }
            return versed;
        }

        private boolean readBar(State state) {
            step();
            int judge = numberWithin(0, state.judges - 1);
            if (judge == NONE) {
                return false;
            }
            step();
            int party = numberWithin(0, PARTIES - 1);
            if (party == NONE) {
                return false;
            }
            state.barred[judge] |= 1 << party;
            step();
            return true;
        }

        private boolean readAway(State state) {
            step();
            int judge = numberWithin(0, state.judges - 1);
            if (judge == NONE) {
                return false;
            }
            state.away |= 1 << judge;
            step();
            return true;
        }

        private boolean readRule(State state) {
            step();
            int rule = kind == WORD ? text.ruleAt(start, end) : NONE;
            if (rule == NONE) {
                return false;
            }
            state.rule = rule;
            step();
            return true;
        }
    }

    /** All but the text and the slips: judges, rule, seed, chain and docket. */
    private static final class State {
        final int[] strength = new int[MOST_JUDGES];
        final int[] versed = new int[MOST_JUDGES];
        final int[] barred = new int[MOST_JUDGES];
        final int[] debt = new int[MOST_JUDGES];
        final int[] subjectOf = new int[MOST_CASES];
        final int[] partyOf = new int[MOST_CASES];
        final int[] judgeOf = new int[MOST_CASES];
        // Only for the length of one draw: copies leave it out.
        final int[] weightsUpTo = new int[MOST_JUDGES];
        int judges;
        int away;
        int rule = PLAIN;
        int seed = FIRST_SEED;
        int chain = FIRST_SEED;
        int turns;
        int cases;

        void copyFrom(State other) {
            System.arraycopy(other.strength, 0, strength, 0, MOST_JUDGES);
            System.arraycopy(other.versed, 0, versed, 0, MOST_JUDGES);
            System.arraycopy(other.barred, 0, barred, 0, MOST_JUDGES);
            System.arraycopy(other.debt, 0, debt, 0, MOST_JUDGES);
            System.arraycopy(other.subjectOf, 0, subjectOf, 0, MOST_CASES);
            System.arraycopy(other.partyOf, 0, partyOf, 0, MOST_CASES);
            System.arraycopy(other.judgeOf, 0, judgeOf, 0, MOST_CASES);
            judges = other.judges;
            away = other.away;
            rule = other.rule;
            seed = other.seed;
            chain = other.chain;
            turns = other.turns;
            cases = other.cases;
        }

        void clearAll() {
            judges = 0;
            away = 0;
            rule = PLAIN;
            startAnew(FIRST_SEED);
        }

        /** SEALED by a seed; who is away or barred stays so. */
        void startAnew(int newSeed) {
            seed = newSeed;
            chain = newSeed;
            turns = 0;
            cases = 0;
            Arrays.fill(debt, 0);
        }

        void addJudge(int itsStrength, int itsVersed) {
            if (judges >= MOST_JUDGES) {
                return;
            }
            strength[judges] = itsStrength;
            versed[judges] = itsVersed;
            barred[judges] = 0;
            debt[judges] = 0;
            judges++;
        }

        boolean hasJudge(int judge) {
            return judge >= 0 && judge < judges;
        }

        boolean hasCase(int number) {
            return number >= 0 && number < cases;
        }

        boolean isAway(int judge) {
            return (away >> judge & 1) == 1;
        }

        boolean isBarred(int judge, int party) {
            return (barred[judge] >> party & 1) == 1;
        }

        boolean isFreeFor(int judge, int party) {
            return !isAway(judge) && !isBarred(judge, party);
        }

        /** Someone beside this judge (NONE: beside nobody) is neither away nor barred. */
        boolean hasSomeoneFor(int party, int beside) {
            for (int i = 0; i < judges; i++) {
                if (i != beside && isFreeFor(i, party)) {
                    return true;
                }
            }
            return false;
        }

        boolean everyCaseHasSomeone() {
            for (int i = 0; i < cases; i++) {
                if (!hasSomeoneFor(partyOf[i], NONE)) {
                    return false;
                }
            }
            return true;
        }

        int casesOf(int judge) {
            int has = 0;
            for (int i = 0; i < cases; i++) {
                if (judgeOf[i] == judge) {
                    has++;
                }
            }
            return has;
        }

        int weightOf(int judge, int subject) {
            if (isAway(judge)) {
                return 0;
            }
            int weight = strength[judge];
            if ((rule & BY_VERSED) != 0 && (versed[judge] >> subject & 1) == 1) {
                weight += weight;
            }
            if ((rule & BY_DEBT) != 0) {
                weight += debt[judge];
            }
            return Math.max(weight, 1);
        }

        int weightsFreeFor(int subject, int party) {
            int sum = 0;
            for (int i = 0; i < judges; i++) {
                if (!isBarred(i, party)) {
                    sum += weightOf(i, subject);
                }
            }
            return sum;
        }

        /** The chain is turned until someone comes who is free: there must be one. */
        int drawJudge(int subject, int party) {
            int all = weighAll(subject);
            for (int i = 0; i < MANY; i++) {
                int judge = judgeReaching(drawBelow(all));
                if (isFreeFor(judge, party)) {
                    return judge;
                }
            }
            return 0;
        }

        /** Sets the weights up to each judge, once for all turns of a draw: all weights together. */
        private int weighAll(int subject) {
            int sum = 0;
            for (int i = 0; i < judges; i++) {
                sum += weightOf(i, subject);
                weightsUpTo[i] = sum;
            }
            return sum;
        }

        private int drawBelow(int n) {
            if (n < 1) {
                return 0;
            }
            long wholeRounds = n * (HALF_RANGE / n);
            for (int i = 0; i < MANY; i++) {
                chain = turned(chain);
                turns++;
                int half = chain >>> 1;
                if (half < wholeRounds) {
                    return half % n;
                }
            }
            return 0;
        }

        private int judgeReaching(int drawn) {
            for (int i = 0; i < judges; i++) {
                if (weightsUpTo[i] > drawn) {
                    return i;
                }
            }
            return 0;
        }

        private void settleDebts(int drawnJudge) {
            int together = 0;
            for (int i = 0; i < judges; i++) {
                together += isAway(i) ? 0 : strength[i];
            }
            for (int i = 0; i < judges; i++) {
                int owed = debt[i] + (isAway(i) ? 0 : strength[i]);
                if (i == drawnJudge) {
                    owed -= together;
                }
                debt[i] = Math.max(-MOST_DEBT, Math.min(MOST_DEBT, owed));
            }
        }

        /** There must be room for a case more, and someone free for it. */
        int addCase(int subject, int party) {
            if (cases >= MOST_CASES) {
                return NONE;
            }
            int judge = drawJudge(subject, party);
            settleDebts(judge);
            subjectOf[cases] = subject;
            partyOf[cases] = party;
            judgeOf[cases] = judge;
            cases++;
            return judge;
        }

        /** The case's judge refuses it; someone else must be free for it. */
        int drawCaseAgain(int number) {
            barred[judgeOf[number]] |= 1 << partyOf[number];
            int judge = drawJudge(subjectOf[number], partyOf[number]);
            settleDebts(judge);
            judgeOf[number] = judge;
            return judge;
        }
    }

    /** The states ahead of the latest calls that can be undone, in a ring. */
    private static final class History {
        final State[] before = new State[MOST_UNDONE];
        int oldest;
        int size;

        History() {
            for (int i = 0; i < MOST_UNDONE; i++) {
                before[i] = new State();
            }
        }

        void forget() {
            size = 0;
        }

        void remember(State state) {
            before[(oldest + size) % MOST_UNDONE].copyFrom(state);
            if (size < MOST_UNDONE) {
                size++;
            } else {
                oldest = (oldest + 1) % MOST_UNDONE;
            }
        }

        void takeBack(State state) {
            if (size < 1) {
                return;
            }
            size--;
            state.copyFrom(before[(oldest + size) % MOST_UNDONE]);
        }
    }
}
