import com.sun.management.ThreadMXBean;
import java.lang.management.ManagementFactory;

/** The dearest calls, 512 on one object, and many objects: what they make stays small, and odd arguments never throw. */
public final class RoomTest {
    private static final int[] ODD = {Integer.MIN_VALUE, -3, -2, -1, 0, 1, 2, 3, 5, 9, 10, 11, 12, 49, 50, 600, Integer.MAX_VALUE};

    public static void main(String[] args) {
        Due due = new Due();
        ThreadMXBean threads = (ThreadMXBean) ManagementFactory.getThreadMXBean();
        long self = Thread.currentThread().getId();
        SilentTable warm = fullTable();
        dearCalls(warm, 0);
        long before = threads.getThreadAllocatedBytes(self);
        SilentTable x = fullTable();
        for (int n = 0; n < 18; n++) {
            dearCalls(x, n);
        }
        long made = threads.getThreadAllocatedBytes(self) - before;
        // 7.3 million elements of at least a byte each are far more than this.
        due.is("bytes made by a full run: " + made, made < 3000000, true);
        before = threads.getThreadAllocatedBytes(self);
        for (int n = 0; n < 100; n++) {
            warm = new SilentTable();
        }
        made = threads.getThreadAllocatedBytes(self) - before;
        due.is("bytes made by 100 objects: " + made, made < 2000000, true);
        oddCalls(new SilentTable());
        oddCalls(fullTable());
        due.close("RoomTest");
    }

    private static SilentTable fullTable() {
        SilentTable x = new SilentTable();
        StringBuilder list = new StringBuilder();
        for (int i = 0; i < 10; i++) {
            list.append("rule 0 0 0 ").append(i % 2 == 0 ? "plus;" : "less;");
        }
        for (int i = 0; i < 16; i++) {
            list.append("sign ").append(i % 10).append(" 0 ").append(i * 3).append(";");
        }
        for (int i = 0; i < 9; i++) {
            list.append("near ").append(i).append(" ").append(i + 1).append(";");
        }
        Due.tell(x, 0, list.toString());
        Due.tell(x, 0, list.toString());
        for (int i = 0; i < 3; i++) {
            Due.tell(x, 1, "0 1 2 3 4 5 6 7 8 9 0 " + i);
        }
        String meal = "look 1 0;" + "says 0 1;".repeat(49);
        Due.tell(x, 2, meal);
        Due.tell(x, 2, meal);
        Due.tell(x, 3, "seen 0;".repeat(8));
        Due.tell(x, 3, "pair 1 1;".repeat(8));
        return x;
    }

    private static void dearCalls(SilentTable x, int n) {
        Due.tell(x, 0, "");
        Due.put(x, "rule 0 0 0 plus;sign 0 0 1;sign 1 0 2;");
        x.text(0, n % 2);
        x.image(n % 3);
        x.ways(n % 2, n % 3, 7);
        x.trees(0, 0, 0, 0, 11);
        x.lasts(1, 0);
        x.idle(0, 1);
        x.hole(0, 2, 3);
        x.all(0, 4, 0);
        x.all(1, 4, 0);
        x.apart(0, 1, 0);
        x.brief(0, n, 9, 0);
        x.breaks(n % 2, 0, 0);
        x.sure(0, 0, 0);
        x.drawn(0, 0, 9, n, 0);
        Due.put(x, "look 1 0;" + "says 0 1;".repeat(49));
        x.text(2, 0);
        x.again(n % 3);
    }

    private static void oddCalls(SilentTable x) {
        for (int a : ODD) {
            for (int b : ODD) {
                x.list(a, b);
                x.row(a, b);
                x.lasts(a, b);
                x.idle(a, b);
                x.meal(a, b);
                x.mildest(a, b);
                x.hears(a, b);
                x.fault(b);
                x.count(b);
                for (int c : ODD) {
                    oddCalls(x, a, b, c);
                }
            }
            x.text(a, 2);
            x.text(a, -2);
            x.image(a);
            x.again(a);
            x.end(a);
        }
    }

    private static void oddCalls(SilentTable x, int a, int b, int c) {
        x.rule(a, b, c);
        x.reading(a, b, c);
        x.means(a, b, c);
        x.ways(a, b, c);
        x.worn(a, b, c);
        x.apart(a, b, c);
        x.hole(a, b, c);
        x.doubt(a, b, c);
        x.deed(a, b, c);
        x.looks(a, b, c);
        x.sure(a, b, c);
        x.passed(a, b, c);
        x.watch(a, b, c > 0);
        x.law(a, b, c);
        x.breaks(a, b, c);
        x.sins(a, b, c);
        x.all(a, b, c);
        x.becomes(a, b, c);
        x.like(a, b, c);
        for (int d : ODD) {
            x.tree(a, b, c, d);
            x.tree(a, b, Long.MIN_VALUE + c, d);
            x.could(a, b, c, d);
            x.brief(a, b, c, d);
            x.caught(a, b, c, d);
            x.can(a, b, c, d);
        }
        x.trees(a, b, 0, c, b);
        x.trees(a, b, c, 0, 11);
        x.knows(a, b, c, 0, -1);
        x.knows(a, 0, b, c, -1);
        x.reaches(a, b, c, 0, 1);
        x.reaches(0, 0, a, b, c);
        x.drawn(a, b, c, b, 0);
        x.drawn(0, a, b, a, c);
        x.asks(a, b, c, 0, 1, 0);
        x.asks(0, 3, a, b, c, 1);
    }
}
