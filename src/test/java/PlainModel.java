import java.util.ArrayDeque;
import java.util.ArrayList;
import java.util.Arrays;
import java.util.Deque;
import java.util.List;
import java.util.TreeSet;
import java.util.regex.Matcher;
import java.util.regex.Pattern;

/**
 * The document once more, written with the whole Java library and without a thought for room or speed,
 * so that random runs can be held against it. It shares no code with CaseWheel.
 */
final class PlainModel {
    private static final int NONE = -1, UNKNOWN = -2, OUTSIDE = -3, NOT = -4, FULL = -5;
    private static final int NULL = -11, INDEX = -12, ROOM = -13, NUMBER = -14;
    private static final List<String> RULES = List.of("plain", "versed", "owing", "both");
    private static final Pattern TOKEN = Pattern.compile("[a-z]+|[0-9]+|[^ ]", Pattern.DOTALL);

    private static final class Judge {
        int strength;
        TreeSet<Integer> versed = new TreeSet<>();
        TreeSet<Integer> barred = new TreeSet<>();
        boolean away;
        int debt;

        Judge copy() {
            Judge j = new Judge();
            j.strength = strength;
            j.versed.addAll(versed);
            j.barred.addAll(barred);
            j.away = away;
            j.debt = debt;
            return j;
        }

        boolean serves(int party) {
            return !away && !barred.contains(party);
        }
    }

    private record Case(int subject, int party, Judge judge) { }

    private static final class World {
        List<Judge> judges = new ArrayList<>();
        String rule = "plain";
        int seed = 1;
        long chain = 1;
        int turns;
        List<Case> cases = new ArrayList<>();

        World copy() {
            World w = new World();
            for (Judge j : judges) w.judges.add(j.copy());
            w.rule = rule;
            w.seed = seed;
            w.chain = chain;
            w.turns = turns;
            for (Case c : cases) w.cases.add(new Case(c.subject, c.party, w.judges.get(judges.indexOf(c.judge))));
            return w;
        }

        void sealBy(int by) {
            seed = by;
            chain = by;
            turns = 0;
            cases.clear();
            for (Judge j : judges) j.debt = 0;
        }

        int weight(Judge j, int subject) {
            if (j.away) return 0;
            int versedStrength = j.versed.contains(subject) ? 2 * j.strength : j.strength;
            int w = switch (rule) {
                case "plain" -> j.strength;
                case "versed" -> versedStrength;
                case "owing" -> j.strength + j.debt;
                default -> versedStrength + j.debt;
            };
            return w < 1 ? 1 : w;
        }

        long draw(int n) {
            while (true) {
                chain = turn(chain);
                turns++;
                long r = chain / 2;
                if (r < n * (2147483648L / n)) return r % n;
            }
        }

        Judge drawJudge(int subject, int party) {
            while (true) {
                long left = draw(judges.stream().mapToInt(j -> weight(j, subject)).sum());
                Judge found = null;
                for (Judge j : judges) {
                    left -= weight(j, subject);
                    if (left < 0) {
                        found = j;
                        break;
                    }
                }
                if (!found.barred.contains(party)) return found;
            }
        }

        void settle(Judge drawn) {
            int all = judges.stream().filter(j -> !j.away).mapToInt(j -> j.strength).sum();
            for (Judge j : judges) if (!j.away) j.debt += j.strength;
            drawn.debt -= all;
            for (Judge j : judges) j.debt = Math.min(99, Math.max(-99, j.debt));
        }

        Judge assign(int subject, int party) {
            Judge drawn = drawJudge(subject, party);
            settle(drawn);
            cases.add(new Case(subject, party, drawn));
            return drawn;
        }

        boolean someone(int party) {
            return judges.stream().anyMatch(j -> j.serves(party));
        }

        boolean everyCaseHasSomeone() {
            return cases.stream().allMatch(c -> someone(c.party));
        }

        String writing() {
            StringBuilder s = new StringBuilder();
            for (int i = 0; i < cases.size(); i++) {
                Case c = cases.get(i);
                s.append(i).append("abcde".charAt(c.subject)).append(c.party);
                s.append('j').append(judges.indexOf(c.judge)).append('.');
            }
            return s.toString();
        }
    }

    private record Token(String letters, int place) { }

    private static final class Fault extends RuntimeException {
        private static final long serialVersionUID = 1L;
        final int place;

        Fault(Token at) {
            place = at.place;
        }
    }

    private final StringBuilder text = new StringBuilder();
    private World told = new World();
    private World now = new World();
    private final Deque<World> past = new ArrayDeque<>();
    private final World[] kept = new World[2];
    private final StringBuilder[] slips = new StringBuilder[3];

    private static long turn(long x) {
        x ^= x << 13 & 0xffffffffL;
        x ^= x >> 17;
        x ^= x << 5 & 0xffffffffL;
        return x;
    }

    // ---- the text

    private static List<Token> tokens(String s) {
        List<Token> all = new ArrayList<>();
        Matcher m = TOKEN.matcher(s);
        while (m.find()) all.add(new Token(m.group(), m.start()));
        all.add(new Token("", s.length()));
        return all;
    }

    private static int number(Token t, int least, int most) {
        if (!t.letters.matches("[0-9]{1,2}")) throw new Fault(t);
        int n = Integer.parseInt(t.letters);
        if (n < least || n > most) throw new Fault(t);
        return n;
    }

    /** Does all clauses in the world, and says how many they were. */
    private int read(World w) {
        List<Token> left = tokens(text.toString());
        int done = 0;
        while (true) {
            Token word = left.remove(0);
            switch (word.letters) {
                case "wheel" -> {
                    w.judges.clear();
                    w.rule = "plain";
                }
                case "judge" -> readJudge(w, word, left);
                case "bar" -> {
                    int j = number(left.remove(0), 0, w.judges.size() - 1);
                    w.judges.get(j).barred.add(number(left.remove(0), 0, 9));
                }
                case "away" -> w.judges.get(number(left.remove(0), 0, w.judges.size() - 1)).away = true;
                case "rule" -> {
                    Token name = left.remove(0);
                    if (!RULES.contains(name.letters)) throw new Fault(name);
                    w.rule = name.letters;
                }
                default -> throw new Fault(word);
            }
            done++;
            Token behind = left.remove(0);
            if (behind.letters.isEmpty()) return done;
            if (!behind.letters.equals(";") || done == 24) throw new Fault(behind);
        }
    }

    private static void readJudge(World w, Token word, List<Token> left) {
        if (w.judges.size() == 6) throw new Fault(word);
        Judge j = new Judge();
        j.strength = number(left.remove(0), 1, 9);
        Token l = left.get(0);
        if (l.letters.matches("[a-z]+")) {
            left.remove(0);
            for (char c : l.letters.toCharArray()) {
                if (c > 'e' || !j.versed.add(c - 'a')) throw new Fault(l);
            }
        }
        w.judges.add(j);
    }

    public int write(int letter) {
        if (letter < 0 || letter > 255) return OUTSIDE;
        if (text.length() == 200) return FULL;
        return text.append((char) letter).length();
    }

    public int erase() {
        int had = text.length();
        text.setLength(0);
        return had;
    }

    public int fault() {
        try {
            read(told.copy());
            return NONE;
        } catch (Fault f) {
            return f.place;
        }
    }

    public int wheel() {
        World w = told.copy();
        int done;
        try {
            done = read(w);
        } catch (Fault f) {
            return NOT;
        }
        told = w;
        now = w.copy();
        past.clear();
        Arrays.fill(kept, null);
        Arrays.fill(slips, null);
        text.setLength(0);
        return done;
    }

    private static int bits(TreeSet<Integer> set) {
        return set.stream().mapToInt(b -> 1 << b).sum();
    }

    private Judge judgeAt(int j) {
        return j < 0 || j >= now.judges.size() ? null : now.judges.get(j);
    }

    private Case caseAt(int c) {
        return c < 0 || c >= now.cases.size() ? null : now.cases.get(c);
    }

    public int judge(int judge, int what) {
        Judge j = judgeAt(judge);
        if (j == null) return UNKNOWN;
        return switch (what) {
            case 0 -> j.strength;
            case 1 -> bits(j.versed);
            case 2 -> bits(j.barred);
            case 3 -> j.away ? 1 : 0;
            case 4 -> j.debt + 100;
            case 5 -> (int) now.cases.stream().filter(c -> c.judge == j).count();
            default -> OUTSIDE;
        };
    }

    public int caseOf(int number, int what) {
        Case c = caseAt(number);
        if (c == null) return UNKNOWN;
        return switch (what) {
            case 0 -> c.subject;
            case 1 -> c.party;
            case 2 -> now.judges.indexOf(c.judge);
            default -> OUTSIDE;
        };
    }

    // ---- what is done

    private void remember() {
        past.addLast(now.copy());
        if (past.size() > 8) past.removeFirst();
    }

    private static boolean outside(int subject, int party) {
        return subject < 0 || subject > 4 || party < 0 || party > 9;
    }

    public int seal(int seed) {
        if (seed < 1) return OUTSIDE;
        int had = now.cases.size();
        now.sealBy(seed);
        past.clear();
        return had;
    }

    public int assign(int subject, int party) {
        if (outside(subject, party)) return OUTSIDE;
        if (!now.someone(party)) return NOT;
        if (now.cases.size() == 20) return FULL;
        remember();
        return now.judges.indexOf(now.assign(subject, party));
    }

    public int refuse(int number) {
        Case c = caseAt(number);
        if (c == null) return UNKNOWN;
        if (now.judges.stream().noneMatch(j -> j != c.judge && j.serves(c.party))) return NOT;
        remember();
        c.judge.barred.add(c.party);
        Judge drawn = now.drawJudge(c.subject, c.party);
        now.settle(drawn);
        now.cases.set(number, new Case(c.subject, c.party, drawn));
        return now.judges.indexOf(drawn);
    }

    public int away(int judge, int is) {
        Judge j = judgeAt(judge);
        if (j == null) return UNKNOWN;
        if (is != 0 && is != 1) return OUTSIDE;
        if (j.away == (is == 1)) return NOT;
        remember();
        now.judges.get(judge).away = is == 1;
        return 1;
    }

    public int undo() {
        if (past.isEmpty()) return NOT;
        now = past.removeLast();
        return past.size();
    }

    public int keep(int k) {
        if (k != 0 && k != 1) return UNKNOWN;
        kept[k] = now.copy();
        return now.cases.size();
    }

    public int back(int k) {
        if (k != 0 && k != 1) return UNKNOWN;
        if (kept[k] == null) return NOT;
        now = kept[k].copy();
        past.clear();
        return now.cases.size();
    }

    // ---- what can be looked at

    public int writing(int k) {
        if (k < 0) return OUTSIDE;
        String w = now.writing();
        return k < w.length() ? w.charAt(k) : NONE;
    }

    public int sealOf(int seed, int k) {
        if (seed < 1 || k < 0 || k > 7) return OUTSIDE;
        long x = seed ^ 305419896L;
        for (int i = 0; i < 5; i++) x = turn(x);
        String hex = String.format("%08x", x);
        return "abcdefghijklmnop".charAt(Character.digit(hex.charAt(k), 16));
    }

    public int weight(int judge, int subject) {
        Judge j = judgeAt(judge);
        if (j == null) return UNKNOWN;
        return subject < 0 || subject > 4 ? OUTSIDE : now.weight(j, subject);
    }

    public int odds(int judge, int subject, int party, int part) {
        Judge j = judgeAt(judge);
        if (j == null) return UNKNOWN;
        if (outside(subject, party) || part < 0 || part > 1) return OUTSIDE;
        if (!now.someone(party)) return NOT;
        int above = j.serves(party) ? now.weight(j, subject) : 0;
        int below = 0;
        for (Judge other : now.judges) if (other.serves(party)) below += now.weight(other, subject);
        int g = java.math.BigInteger.valueOf(above).gcd(java.math.BigInteger.valueOf(below)).intValue();
        return (part == 0 ? above : below) / g;
    }

    public int next(int subject, int party) {
        if (outside(subject, party)) return OUTSIDE;
        if (!now.someone(party)) return NOT;
        World w = now.copy();
        return w.judges.indexOf(w.assign(subject, party));
    }

    private int[] recount(int seed) {
        World w = now.copy();
        w.sealBy(seed);
        int same = 0;
        for (Case c : now.cases) {
            int drawn = w.judges.indexOf(w.assign(c.subject, c.party));
            if (drawn == now.judges.indexOf(c.judge)) same++;
        }
        return new int[] {same, w.turns};
    }

    public int count(int seed, int what) {
        if (seed < 1 || what < 0 || what > 1) return OUTSIDE;
        if (!now.everyCaseHasSomeone()) return NOT;
        return recount(seed)[what];
    }

    public int like(int n) {
        if (n < 1 || n > 20) return OUTSIDE;
        if (!now.everyCaseHasSomeone()) return NOT;
        for (int seed = 1; seed <= 300; seed++) if (recount(seed)[0] >= n) return seed;
        return NONE;
    }

    // ---- slips

    private static boolean noSlip(int slip) {
        return slip < 0 || slip > 2;
    }

    public int slip(int slip) {
        if (noSlip(slip)) return UNKNOWN;
        slips[slip] = new StringBuilder();
        return 0;
    }

    public int insert(int slip, int i, int letter) {
        if (noSlip(slip)) return UNKNOWN;
        if (letter < 0 || letter > 255 || !String.valueOf((char) letter).matches("[a-z0-9.]")) return OUTSIDE;
        if (slips[slip] == null) return NULL;
        if (i < 0 || i > slips[slip].length()) return INDEX;
        if (slips[slip].length() == 40) return ROOM;
        return slips[slip].insert(i, (char) letter).length();
    }

    public int cut(int slip, int i, int j) {
        if (noSlip(slip)) return UNKNOWN;
        if (slips[slip] == null) return NULL;
        if (i < 0 || j < i || j > slips[slip].length()) return INDEX;
        return slips[slip].delete(i, j).length();
    }

    public int join(int slip, int other) {
        if (noSlip(slip) || noSlip(other)) return UNKNOWN;
        if (slips[slip] == null || slips[other] == null) return NULL;
        String both = slips[slip].toString() + slips[other];
        if (both.length() > 40) return ROOM;
        slips[slip] = new StringBuilder(both);
        return both.length();
    }

    public int letter(int slip, int k) {
        if (noSlip(slip)) return UNKNOWN;
        if (slips[slip] == null) return NULL;
        return k < 0 || k >= slips[slip].length() ? INDEX : slips[slip].charAt(k);
    }

    public int find(int slip, int what) {
        if (noSlip(slip)) return UNKNOWN;
        if (what < 0 || what > 3) return OUTSIDE;
        if (slips[slip] == null || what > 0 && slips[what - 1] == null) return NULL;
        String in = what == 0 ? now.writing() : slips[what - 1].toString();
        return in.indexOf(slips[slip].toString());
    }

    public int value(int slip) {
        if (noSlip(slip)) return UNKNOWN;
        if (slips[slip] == null) return NULL;
        return slips[slip].toString().matches("[0-9]{1,4}") ? Integer.parseInt(slips[slip].toString()) : NUMBER;
    }

    public int named(int slip) {
        if (noSlip(slip)) return UNKNOWN;
        return slips[slip] == null ? NULL : RULES.indexOf(slips[slip].toString());
    }

    public int drop(int slip) {
        if (noSlip(slip)) return UNKNOWN;
        if (slips[slip] == null) return NULL;
        int had = slips[slip].length();
        slips[slip] = null;
        return had;
    }

    public int told(int what) {
        return switch (what) {
            case 0 -> now.judges.size();
            case 1 -> now.cases.size();
            case 2 -> now.turns;
            case 3 -> RULES.indexOf(now.rule);
            case 4 -> now.writing().length();
            case 5 -> awayBits();
            case 6 -> past.size();
            case 7 -> text.length();
            case 8 -> Arrays.stream(slips).mapToInt(s -> s == null ? 0 : s.length()).sum();
            case 9 -> now.seed;
            default -> OUTSIDE;
        };
    }

    private int awayBits() {
        int all = 0;
        for (int i = 0; i < now.judges.size(); i++) if (now.judges.get(i).away) all += 1 << i;
        return all;
    }
}
