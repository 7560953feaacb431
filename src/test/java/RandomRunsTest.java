import java.lang.reflect.Method;
import java.util.ArrayList;
import java.util.List;
import java.util.Random;

/** Random runs of calls, each call's answer held against PlainModel's; the same runs every time. */
public final class RandomRunsTest {
    private static final int RUNS = 1500, CALLS = 512;
    private static final String[] NAMES = {
        "write", "erase", "fault", "wheel", "judge", "caseOf", "seal", "assign", "refuse", "away", "undo", "keep",
        "back", "writing", "sealOf", "weight", "odds", "next", "count", "like", "slip", "insert", "cut", "join",
        "letter", "find", "value", "named", "drop", "told"};
    // How often each of the calls above is made, in shares; texts are mostly written by writeText.
    private static final int[] SHARES = {
        1, 1, 1, 1, 5, 3, 1, 24, 8, 6, 6, 2,
        2, 5, 2, 5, 5, 5, 3, 1, 3, 12, 3, 3,
        3, 6, 3, 3, 1, 8};

    // Their first turns are 2147483647 and the numbers below it: beyond the last whole round of many weights.
    private static final int[] THROWN_AWAY = {
        1584200935, 1236431772, 1913638251, 1708212752, 292819076, 111845375, 1024925960, 717860467, 624307827};

    private final Random random;
    private final CaseWheel real = new CaseWheel();
    private final PlainModel model = new PlainModel();
    private final List<String> done = new ArrayList<>();
    private boolean wrong;

    private RandomRunsTest(long seed) {
        random = new Random(seed);
    }

    public static void main(String[] args) throws Exception {
        int wrongRuns = 0;
        for (int run = 0; run < RUNS; run++) {
            RandomRunsTest test = new RandomRunsTest(run);
            test.run();
            if (test.wrong) wrongRuns++;
        }
        System.out.println(RUNS + " random runs, wrong: " + wrongRuns);
        if (wrongRuns != 0) System.exit(1);
    }

    private void run() throws Exception {
        writeText();
        while (done.size() < CALLS && !wrong) {
            if (random.nextInt(60) == 0) {
                writeText();
            } else if (random.nextInt(40) == 0) {
                writeSlip();
            } else {
                String name = NAMES[byShare()];
                call(name, arguments(name));
            }
        }
    }

    private int byShare() {
        int sum = 0;
        for (int share : SHARES) sum += share;
        int drawn = random.nextInt(sum);
        for (int i = 0; i < SHARES.length; i++) {
            drawn -= SHARES[i];
            if (drawn < 0) return i;
        }
        return 0;
    }

    private void call(String name, Integer... args) throws Exception {
        if (done.size() >= CALLS || wrong) return;
        Class<?>[] types = new Class<?>[args.length];
        java.util.Arrays.fill(types, int.class);
        Method ofReal = CaseWheel.class.getMethod(name, types);
        Method ofModel = PlainModel.class.getMethod(name, types);
        Object got = ofReal.invoke(real, (Object[]) args);
        Object want = ofModel.invoke(model, (Object[]) args);
        done.add(name + List.of(args) + " " + got);
        if (!got.equals(want)) {
            wrong = true;
            System.out.println("due is " + want + " at the last of: " + done);
        }
    }

    private Integer[] arguments(String name) {
        return switch (name) {
            case "write" -> row(within(0, 255));
            case "judge" -> row(within(0, 5), within(0, 5));
            case "caseOf" -> row(within(0, 19), within(0, 2));
            case "seal" -> row(seed());
            case "assign", "next" -> row(within(0, 4), party());
            case "refuse" -> row(within(0, 19));
            case "away" -> row(within(0, 5), within(0, 1));
            case "keep", "back" -> row(within(0, 1));
            case "writing" -> row(within(0, 130));
            case "sealOf" -> row(seed(), within(0, 7));
            case "weight" -> row(within(0, 5), within(0, 4));
            case "odds" -> row(within(0, 5), within(0, 4), party(), within(0, 1));
            case "count" -> row(seed(), within(0, 1));
            case "like" -> row(within(1, 20));
            case "slip", "value", "named", "drop" -> row(within(0, 2));
            case "insert" -> row(within(0, 2), within(0, 12), slipLetter());
            case "cut" -> row(within(0, 2), within(0, 12), within(0, 12));
            case "join", "letter" -> row(within(0, 2), within(0, 2));
            case "find" -> row(within(0, 2), within(0, 3));
            case "told" -> row(within(0, 9));
            default -> row();
        };
    }

    private static Integer[] row(Integer... args) {
        return args;
    }

    /** Mostly a number within the bounds, at times one just outside, rarely any number at all. */
    private int within(int least, int most) {
        int kind = random.nextInt(60);
        if (kind == 0) return least - 1;
        if (kind == 1) return most + 1;
        if (kind == 2 && random.nextInt(3) == 0) return random.nextInt();
        return least + random.nextInt(most - least + 1);
    }

    private int party() {
        return random.nextBoolean() ? within(0, 2) : within(0, 9);
    }

    private int seed() {
        int kind = random.nextInt(20);
        if (kind == 0) return 0;
        if (kind == 1) return -random.nextInt(Integer.MAX_VALUE);
        if (kind == 2) return Integer.MAX_VALUE;
        if (kind == 3) return THROWN_AWAY[random.nextInt(THROWN_AWAY.length)];
        return kind < 12 ? 1 + random.nextInt(300) : 1 + random.nextInt(Integer.MAX_VALUE);
    }

    private int slipLetter() {
        if (random.nextInt(12) == 0) return within('a' - 1, 'z' + 1);
        String letters = "0123456789abcdej..";
        return letters.charAt(random.nextInt(letters.length()));
    }

    private void writeSlip() throws Exception {
        String[] likely = {"plain", "versed", "owing", "both", "j0.", "0a", "1", "12", "0417", "99999", ".1", "plains"};
        int slip = random.nextInt(3);
        String letters = likely[random.nextInt(likely.length)];
        call("slip", slip);
        for (int i = 0; i < letters.length(); i++) call("insert", slip, i, (int) letters.charAt(i));
        call("named", slip);
        call("value", slip);
        call("find", slip, 0);
    }

    // ---- texts

    private void writeText() throws Exception {
        StringBuilder text = new StringBuilder();
        int clauses = random.nextInt(30) == 0 ? 20 + random.nextInt(8) : 1 + random.nextInt(7);
        boolean isShort = clauses > 20;
        for (int i = 0; i < clauses; i++) {
            if (i > 0) text.append(blanks()).append(';').append(blanks());
            text.append(isShort ? "wheel" : clause(i));
        }
        if (random.nextInt(6) == 0 && text.length() > 0) spoil(text);
        for (char c : text.toString().toCharArray()) call("write", (int) c);
        call("fault");
        call("wheel");
        if (random.nextBoolean()) call("erase");
        for (int judge = 0; judge < 6; judge++) call("judge", judge, random.nextInt(5));
    }

    private String blanks() {
        return random.nextInt(20) == 0 ? "  " : "";
    }

    private String clause(int place) {
        int kind = random.nextInt(10);
        if (place == 0 && random.nextBoolean()) return "wheel";
        if (kind < 5) return "judge " + number(1, 9) + versed();
        if (kind < 7) return "bar " + number(0, 2) + " " + number(0, 9);
        if (kind == 7) return "away " + number(0, 3);
        if (kind == 8) return "rule " + List.of("plain", "versed", "owing", "both").get(random.nextInt(4));
        return random.nextInt(4) == 0 ? "wheel" : "rule both";
    }

    private String number(int least, int most) {
        int n = least + random.nextInt(most - least + 1);
        int kind = random.nextInt(40);
        if (kind == 0) return "0" + n;
        if (kind == 1) return "00" + n;
        return kind == 2 ? String.valueOf(n + 8) : String.valueOf(n);
    }

    private String versed() {
        StringBuilder letters = new StringBuilder();
        int most = random.nextInt(6);
        for (int i = 0; i < most; i++) {
            char c = (char) ('a' + random.nextInt(5));
            if (letters.indexOf(String.valueOf(c)) < 0 || random.nextInt(20) == 0) letters.append(c);
        }
        return letters.length() == 0 ? "" : " " + letters;
    }

    private void spoil(StringBuilder text) {
        int place = random.nextInt(text.length());
        switch (random.nextInt(4)) {
            case 0 -> text.deleteCharAt(place);
            case 1 -> text.insert(place, (char) random.nextInt(256));
            case 2 -> text.setLength(place);
            default -> text.insert(place, ";0a .9".charAt(random.nextInt(6)));
        }
    }
}
