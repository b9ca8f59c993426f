import com.sun.management.ThreadMXBean;
import java.lang.management.ManagementFactory;
import java.lang.reflect.Constructor;
import java.lang.reflect.Field;
import java.lang.reflect.Member;
import java.lang.reflect.Method;
import java.lang.reflect.Modifier;
import java.util.Set;
import java.util.TreeSet;

/**
 * The public face is the document's and no more; what the constructor makes, and what the dearest
 * call makes counted for each of 512 calls, have place in the room together.
 */
public final class FaceAndRoomTest {
    private static final Set<String> FACE = Set.of(
        "public TwoEndSearch(int)",
        "public int TwoEndSearch.move()",
        "public boolean TwoEndSearch.cycle(int,int,int)",
        "public int TwoEndSearch.order(int)",
        "public boolean TwoEndSearch.label(boolean,int,int)",
        "public int TwoEndSearch.run(int,int)",
        "public int TwoEndSearch.step(int,boolean)",
        "public long TwoEndSearch.ways()",
        "public int TwoEndSearch.spread(int,int)",
        "public int TwoEndSearch.deepest(int)",
        "public boolean TwoEndSearch.replay(long)",
        "public void TwoEndSearch.clear()");
    private static final int CALLS = 512;
    /**
     * In bytes. The room has 7.3 million fields and elements, each of a byte or more, and 600,000
     * objects, each of 16 bytes or more: what has so few bytes has neither too many.
     */
    private static final long ROOM = Math.min(7_300_000L, 16 * 600_000L);
    private static final ThreadMXBean THREADS = (ThreadMXBean) ManagementFactory.getThreadMXBean();
    private static long made;
    private static long dearest;
    private static long dearestCall;
    private static long sum;
    private static int wrong = 0;

    private static void due(String what, boolean holds) {
        if (!holds) {
            wrong++;
            System.out.println("not so: " + what);
        }
    }

    public static void main(String[] args) {
        face();
        countingWorks();
        // Once before it counts: the machine itself makes objects when it loads a class.
        runOfCalls(8);
        for (int places : new int[] {0, 1, 5, 8, Integer.MAX_VALUE}) {
            room(places);
        }
        System.out.println(wrong == 0 ? "face and room are as due" : wrong + " not as due");
        if (wrong != 0) {
            System.exit(1);
        }
    }

    private static void face() {
        Set<String> seen = new TreeSet<>();
        for (Constructor<?> c : TwoEndSearch.class.getDeclaredConstructors()) {
            see(c, c.toString(), seen);
        }
        for (Method m : TwoEndSearch.class.getDeclaredMethods()) {
            see(m, m.toString(), seen);
        }
        for (Field f : TwoEndSearch.class.getDeclaredFields()) {
            see(f, f.toString(), seen);
            due("static field is final: " + f, !Modifier.isStatic(f.getModifiers()) || Modifier.isFinal(f.getModifiers()));
        }
        due("the face is " + new TreeSet<>(FACE) + " but is " + seen, seen.equals(FACE));
        due("the class is public and final",
            TwoEndSearch.class.getModifiers() == (Modifier.PUBLIC | Modifier.FINAL));
    }

    private static void see(Member member, String text, Set<String> seen) {
        if (!Modifier.isPrivate(member.getModifiers()) && !member.isSynthetic()) {
            seen.add(text);
        }
    }

    private static void countingWorks() {
        long before = THREADS.getCurrentThreadAllocatedBytes();
        int[] row = new int[10_000];
        long bytes = THREADS.getCurrentThreadAllocatedBytes() - before;
        sum += row.length;
        due("this machine counts what is made", bytes >= 40_000);
    }

    private static void room(int places) {
        runOfCalls(places);
        long all = made + CALLS * dearest;
        due("of " + places + " places the constructor makes " + made + " bytes and call " + dearestCall
            + ", the dearest, " + dearest + ": for " + CALLS + " calls " + all + " in all (sum " + sum + ")",
            all <= ROOM);
    }

    private static void runOfCalls(int places) {
        dearest = 0;
        dearestCall = -1;
        long before = THREADS.getCurrentThreadAllocatedBytes();
        TwoEndSearch x = new TwoEndSearch(places);
        made = THREADS.getCurrentThreadAllocatedBytes() - before;
        for (int call = 0; call < CALLS; call++) {
            before = THREADS.getCurrentThreadAllocatedBytes();
            sum += answer(x, call);
            long bytes = THREADS.getCurrentThreadAllocatedBytes() - before;
            if (bytes > dearest) {
                dearest = bytes;
                dearestCall = call;
            }
        }
    }

    /** First come moves that lead to all orders of the labels, then all calls, at last clear(). */
    private static long answer(TwoEndSearch x, int call) {
        if (call < 48) {
            return lengthened(x, call / 8, call % 8);
        }
        if (call < 56) {
            return bit(x.label(true, call - 48, 55 - call));
        }
        return call < CALLS - 12 ? anyAnswer(x, call) : lateAnswer(x, call - (CALLS - 12));
    }

    /** A round of five beside a round of three, from another place on for each move; the last is a swap. */
    private static long lengthened(TwoEndSearch x, int move, int i) {
        if (i == 0) {
            return x.move();
        }
        int from = (move + (i < 5 ? 0 : 5)) % 8;
        return bit(x.cycle(move, move < 5 ? from : 0, move < 5 ? (move + i) % 8 : 1));
    }

    private static long anyAnswer(TwoEndSearch x, int call) {
        int measure = call / 20 % 2;
        return switch (call % 20) {
            case 0 -> x.run(measure, 99);
            case 1 -> x.ways();
            case 2 -> x.step(0, false);
            case 3 -> x.step(1, true);
            case 4 -> bit(x.label(true, 0, 7));
            case 5 -> x.run(1 - measure, Integer.MAX_VALUE);
            case 6 -> bit(x.label(false, 0, 0));
            case 7 -> x.spread(measure, 3);
            case 8 -> x.spread(1 - measure, Integer.MAX_VALUE);
            case 9 -> bit(x.label(false, 0, 0));
            case 10 -> x.deepest(measure);
            case 11 -> x.deepest(1 - measure);
            case 12 -> bit(x.replay(07_543210L));
            case 13 -> x.order(0);
            case 14 -> x.move();
            case 15 -> bit(x.cycle(0, 0, 1));
            case 16 -> bit(x.label(true, 8, 8));
            case 17 -> measure == 0 ? x.run(2, -1) : x.step(-1, false);
            case 18 -> measure == 0 ? x.spread(-1, -1) : x.deepest(2);
            default -> bit(x.label(false, 0, 0));
        };
    }

    private static long lateAnswer(TwoEndSearch x, int call) {
        return switch (call % 6) {
            case 0 -> cleared(x);
            case 1 -> x.move();
            case 2 -> bit(x.cycle(0, 0, 1));
            case 3 -> x.run(call / 6, 9);
            case 4 -> x.deepest(call / 6);
            default -> x.spread(call / 6, 1);
        };
    }

    private static long cleared(TwoEndSearch x) {
        x.clear();
        return 0;
    }

    private static int bit(boolean answer) {
        return answer ? 1 : 0;
    }
}
