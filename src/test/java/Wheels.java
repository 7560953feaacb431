import java.lang.reflect.InvocationTargetException;
import java.lang.reflect.Method;
import java.util.Arrays;
import java.util.Comparator;
import java.util.Set;
import java.util.TreeSet;
import java.util.function.IntSupplier;
import java.util.function.IntUnaryOperator;

/**
 * What the tests of promises share: wheels to begin with, what is due, and looks at all that a caller can see.
 * The turns of seed 1, halved, are 135184, 33817344, 1323717730, 153799847, 1199344616, 372747752, 316217741,
 * 217878105: what is due for drawn judges is worked out from these by hand.
 */
abstract class Wheels {
    static final int NONE = -1, UNKNOWN = -2, OUTSIDE = -3, NOT = -4, FULL = -5;
    static final int NULL = -11, INDEX = -12, ROOM = -13, NUMBER = -14;
    static final int LEAST = Integer.MIN_VALUE, MOST = Integer.MAX_VALUE;
    // Weights 3, 5, 2: seed 1 draws 4, 4, 0, 7, 6, 2, 1, 5 of 10, so judges 1, 1, 0, 1, 1, 0, 0, 1.
    static final String THREE = "judge 3 ab;judge 5;judge 2 cde";
    // Weights 1, 1: seed 1 draws 0, 0, 0, 1, 0, 0, 1, 1 of 2, and these are the judges.
    static final String TWO = "judge 1;judge 1";
    static final String SIX = "judge 9;judge 9;judge 9;judge 9;judge 9;judge 9";

    static String about = "";
    private static int passed;
    private static int wrong;

    // ---- tests, and what is due in them

    /** Runs every test of a class; each of these promises must have one that bears its number. */
    static void runBoundaries(Class<?> tests, int... promises) throws Exception {
        Set<Integer> tested = new TreeSet<>();
        Method[] methods = tests.getDeclaredMethods();
        Arrays.sort(methods, Comparator.comparing(Method::getName));
        for (Method test : methods) {
            if (!test.getName().matches("promise\\d\\d_\\w+")) continue;
            tested.add(Integer.parseInt(test.getName().substring(7, 9)));
            runBoundary(test);
        }
        for (int promise : promises) {
            about = "promise " + promise;
            due("has a test", tested.contains(promise), true);
        }
        end();
    }

    private static void runBoundary(Method test) throws Exception {
        about = test.getName();
        int before = passed + wrong;
        try {
            test.invoke(null);
        } catch (InvocationTargetException thrown) {
            due("nothing thrown", thrown.getCause(), "nothing");
        }
        due("something looked at", passed + wrong > before, true);
    }

    static void end() {
        System.out.println(passed + " answers as due, " + wrong + " not");
        if (wrong != 0) System.exit(1);
    }

    static void due(String what, Object got, Object want) {
        if (got.equals(want)) {
            passed++;
        } else {
            wrong++;
            System.out.println(about + ": " + what + " answered " + got + ", due is " + want);
        }
    }

    /** The same answer is due for each of these arguments. */
    static void dueForAll(String what, IntUnaryOperator call, int want, int... arguments) {
        for (int argument : arguments) due(what + " of " + argument, call.applyAsInt(argument), want);
    }

    /** The call is refused, and nothing changes. */
    static void dueRefused(CaseWheel x, String what, IntSupplier call, int want) {
        String before = lookAll(x);
        due(what, call.getAsInt(), want);
        due("all behind " + what, lookAll(x), before);
    }

    /** The call is refused for each of these arguments, and nothing changes. */
    static void dueRefusedForAll(CaseWheel x, String what, IntUnaryOperator call, int want, int... arguments) {
        String before = lookAll(x);
        dueForAll(what, call, want, arguments);
        due("all behind " + what, lookAll(x), before);
    }

    // ---- wheels to begin with

    static CaseWheel writeText(CaseWheel x, String text) {
        for (char c : text.toCharArray()) x.write(c);
        return x;
    }

    static CaseWheel told(String text) {
        CaseWheel x = writeText(new CaseWheel(), text);
        due("fault() of " + text, x.fault(), NONE);
        x.wheel();
        return x;
    }

    static CaseWheel sealed(String text, int seed) {
        CaseWheel x = told(text);
        x.seal(seed);
        return x;
    }

    static int faultOf(String text) {
        return writeText(new CaseWheel(), text).fault();
    }

    static CaseWheel withSlip(CaseWheel x, int slip, String letters) {
        x.slip(slip);
        for (int i = 0; i < letters.length(); i++) x.insert(slip, i, letters.charAt(i));
        return x;
    }

    static void assignAll(CaseWheel x, int cases, int party) {
        for (int i = 0; i < cases; i++) x.assign(i % 5, party);
    }

    /** Something of all there is: text, slips, cases, bars, debts, someone away, calls that can be undone. */
    static CaseWheel busy() {
        CaseWheel x = sealed(THREE + ";bar 2 4;rule both", 42);
        assignAll(x, 4, 1);
        x.refuse(2);
        x.away(1, 1);
        withSlip(withSlip(x, 0, "3b7j0."), 1, "both");
        return writeText(x, "judge 1;whee");
    }

    // ---- looks

    static String slipOf(CaseWheel x, int slip) {
        StringBuilder s = new StringBuilder();
        for (int k = 0; k <= 40 && x.letter(slip, k) >= 0; k++) s.append((char) x.letter(slip, k));
        return s.toString();
    }

    static String docketOf(CaseWheel x) {
        StringBuilder s = new StringBuilder();
        for (int k = 0; k < 200 && x.writing(k) >= 0; k++) s.append((char) x.writing(k));
        return s.toString();
    }

    static String sealOf(CaseWheel x, int seed) {
        StringBuilder s = new StringBuilder();
        for (int k = 0; k < 8; k++) s.append((char) x.sealOf(seed, k));
        return s.toString();
    }

    static String debts(CaseWheel x) {
        StringBuilder s = new StringBuilder();
        for (int judge = 0; judge < x.told(0); judge++) s.append(x.judge(judge, 4) - 100).append(' ');
        return s.toString().trim();
    }

    /** All that a caller can see but the text, the slips and what can be undone, in one row. */
    static String look(CaseWheel x) {
        StringBuilder s = new StringBuilder(docketOf(x));
        for (int what : new int[] {0, 1, 2, 3, 5, 9}) s.append(' ').append(x.told(what));
        for (int judge = 0; judge < x.told(0); judge++) {
            for (int what = 0; what < 6; what++) s.append(' ').append(x.judge(judge, what));
        }
        for (int party = 0; party < 10; party++) s.append(' ').append(x.next(0, party));
        return s.toString();
    }

    /** All that a caller can see without a change. */
    static String lookAll(CaseWheel x) {
        StringBuilder s = new StringBuilder(look(x));
        for (int what : new int[] {4, 6, 7, 8}) s.append(' ').append(x.told(what));
        s.append(" fault ").append(x.fault());
        for (int slip = 0; slip < 3; slip++) s.append(' ').append(x.letter(slip, -1)).append(slipOf(x, slip));
        return s.toString();
    }
}
