import com.sun.management.ThreadMXBean;
import java.lang.management.ManagementFactory;

/**
 * What an object and its calls take of the one room that all calls of a run live in (rule 12 of
 * ../shared/LANGUAGE.md): all is made with the object, and no call makes more.
 */
public final class RoomTest {
    private static final ThreadMXBean THREADS = (ThreadMXBean) ManagementFactory.getThreadMXBean();
    private static final int MOST_BYTES_OF_AN_OBJECT = 16384;
    private static final int TIMES = 20;
    private static final String TEXT = "judge 9 abcde;judge 8;judge 7;judge 6;judge 5;judge 4;bar 0 0;bar 1 0;bar 2 0;"
        + "bar 3 0;bar 4 0;rule both";

    private static int calls;
    private static int sum;

    public static void main(String[] args) {
        long ofObject = Long.MAX_VALUE;
        long ofCalls = Long.MAX_VALUE;
        // The least of several times: the machine itself takes some room while it makes classes and code ready.
        for (int time = 0; time < TIMES; time++) {
            calls = 0;
            long begin = THREADS.getCurrentThreadAllocatedBytes();
            CaseWheel x = new CaseWheel();
            long made = THREADS.getCurrentThreadAllocatedBytes();
            useAll(x);
            long end = THREADS.getCurrentThreadAllocatedBytes();
            ofObject = Math.min(ofObject, made - begin);
            ofCalls = Math.min(ofCalls, end - made);
        }
        System.out.println("an object takes " + ofObject + " bytes, " + calls + " calls of it take " + ofCalls);
        if (ofObject > MOST_BYTES_OF_AN_OBJECT || ofCalls != 0 || calls > 512 || sum == 0) System.exit(1);
    }

    private static void done(int answer) {
        calls++;
        sum += answer;
    }

    /** Every call, the dearest ones of a full docket. */
    private static void useAll(CaseWheel x) {
        for (int i = 0; i < TEXT.length(); i++) done(x.write(TEXT.charAt(i)));
        for (int i = 0; i < 10; i++) done(x.fault());
        done(x.wheel());
        done(x.seal(7));
        for (int i = 0; i < 20; i++) done(x.assign(i % 5, i % 2));
        for (int i = 0; i < 10; i++) {
            look(x, i);
            change(x, i);
            slips(x, i);
        }
    }

    private static void look(CaseWheel x, int i) {
        done(x.judge(i % 6, i % 6));
        done(x.caseOf(i, i % 3));
        done(x.writing(i));
        done(x.sealOf(i + 1, i % 8));
        done(x.weight(i % 6, i % 5));
        done(x.odds(i % 6, i % 5, 1, i % 2));
        done(x.next(i % 5, 1));
        done(x.count(i + 1, i % 2));
        done(x.like(i + 10));
        done(x.told(i));
    }

    private static void change(CaseWheel x, int i) {
        done(x.keep(i % 2));
        done(x.refuse(2 * i + 1));
        done(x.away(0, 1));
        done(x.undo());
        done(x.back(i % 2));
        done(x.wheel());
        done(x.erase());
    }

    private static void slips(CaseWheel x, int i) {
        done(x.slip(i % 3));
        done(x.insert(i % 3, 0, '1'));
        done(x.join(i % 3, i % 3));
        done(x.letter(i % 3, 1));
        done(x.find(i % 3, 0));
        done(x.value(i % 3));
        done(x.named(i % 3));
        done(x.cut(i % 3, 0, 1));
        done(x.drop(i % 3));
    }
}
