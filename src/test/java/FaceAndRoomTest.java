import java.lang.management.ManagementFactory;
import java.lang.reflect.Constructor;
import java.lang.reflect.Field;
import java.lang.reflect.Member;
import java.lang.reflect.Method;
import java.lang.reflect.Modifier;
import java.util.Set;
import java.util.TreeSet;

/** The public face is the document's and no more; runs of 512 calls stay in the room. */
public final class FaceAndRoomTest {
    private static final Set<String> FACE = Set.of(
        "public TwoEndSearch(int)",
        "public int TwoEndSearch.move()",
        "public boolean TwoEndSearch.cycle(int,int,int)",
        "public int TwoEndSearch.order(int)",
        "public boolean TwoEndSearch.label(boolean,int,int)",
        "public int TwoEndSearch.run(int,int)",
        "public int TwoEndSearch.step(int,boolean)",
        "public long TwoEndSearch.ways()",
        "public int TwoEndSearch.spread(int,int)",
        "public int TwoEndSearch.deepest(int)",
        "public boolean TwoEndSearch.replay(long)",
        "public void TwoEndSearch.clear()");
    private static final int CALLS = 512;
    /** 7.3 million elements of 4 bytes at least, so what allocates fewer bytes has fewer elements. */
    private static final long ROOM = 4L * 7_300_000;
    private static int wrong = 0;

    private static void due(String what, boolean holds) {
        if (!holds) {
            wrong++;
            System.out.println("not so: " + what);
        }
    }

    public static void main(String[] args) {
        face();
        room();
        System.out.println(wrong == 0 ? "face and room are as due" : wrong + " not as due");
        if (wrong != 0) {
            System.exit(1);
        }
    }

    private static void face() {
        Set<String> seen = new TreeSet<>();
        for (Constructor<?> c : TwoEndSearch.class.getDeclaredConstructors()) {
            see(c, c.toString(), seen);
        }
        for (Method m : TwoEndSearch.class.getDeclaredMethods()) {
            see(m, m.toString(), seen);
        }
        for (Field f : TwoEndSearch.class.getDeclaredFields()) {
            see(f, f.toString(), seen);
            due("static field is final: " + f, !Modifier.isStatic(f.getModifiers()) || Modifier.isFinal(f.getModifiers()));
        }
        due("the face is " + new TreeSet<>(FACE) + " but is " + seen, seen.equals(FACE));
        due("the class is public and final",
            TwoEndSearch.class.getModifiers() == (Modifier.PUBLIC | Modifier.FINAL));
    }

    private static void see(Member member, String text, Set<String> seen) {
        if (!Modifier.isPrivate(member.getModifiers()) && !member.isSynthetic()) {
            seen.add(text);
        }
    }

    private static void room() {
        if (!(ManagementFactory.getThreadMXBean() instanceof com.sun.management.ThreadMXBean threads)) {
            System.out.println("this machine does not count what is allocated");
            return;
        }
        for (int kind = 0; kind < 4; kind++) {
            long before = threads.getCurrentThreadAllocatedBytes();
            long sum = dearestRun(kind);
            long used = threads.getCurrentThreadAllocatedBytes() - before;
            due("run of kind " + kind + " (sum " + sum + ") allocates " + used + " bytes", used < ROOM);
        }
    }

    /** All orders of eight labels, five moves of the greatest order and a swap; a change before each search. */
    private static long dearestRun(int kind) {
        TwoEndSearch x = new TwoEndSearch(8);
        int calls = 0;
        for (int move = 0; move < 5; move++) {
            x.move();
            for (int i = 1; i < 8; i++) {
                x.cycle(move, (move + (i < 5 ? 0 : 5)) % 8, (move + i) % 8);
            }
            calls += 8;
        }
        x.cycle(x.move(), 0, 1);
        calls += 2;
        for (int place = 0; place < 8; place++) {
            x.label(true, place, 7 - place);
            calls++;
        }
        long sum = 0;
        for (; calls + 2 <= CALLS; calls += 2) {
            x.label(false, 0, 0);
            sum += switch (kind) {
                case 0 -> x.deepest(1);
                case 1 -> x.deepest(0);
                case 2 -> x.run(1, 99);
                default -> x.run(0, 99);
            };
        }
        return sum;
    }
}
