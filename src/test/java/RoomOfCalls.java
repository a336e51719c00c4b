import com.sun.management.ThreadMXBean;
import java.lang.management.ManagementFactory;

/**
 * All calls of one run live in one room: the rows are made by the constructor, and no call makes
 * anything. Measured at the dearest calls there are.
 */
public final class RoomOfCalls {
    public static void main(String[] args) {
        ThreadMXBean threads = (ThreadMXBean) ManagementFactory.getThreadMXBean();
        long id = Thread.currentThread().getId();
        Desk first = make();
        calls(first, 2); // classes are loaded by now
        long before = threads.getThreadAllocatedBytes(id);
        Desk x = new Desk();
        long made = threads.getThreadAllocatedBytes(id) - before;
        Desk.due("the constructor makes less than a megabyte: " + made, made < 1_000_000 ? 1 : 0, 1);
        Desk y = make();
        before = threads.getThreadAllocatedBytes(id);
        calls(y, 100);
        made = threads.getThreadAllocatedBytes(id) - before;
        Desk.due("dear calls make next to nothing: " + made, made < 20_000 ? 1 : 0, 1);
        Desk.due("the objects stand", x.house.count(0) + y.house.count(2), 6);
        Desk.end();
    }

    static Desk make() {
        Desk x = new Desk();
        x.row(4, Desk.bits(1.5), Desk.bits(2e300), Desk.bits(-1e-300));
        for (int member = 0; member < 6; member++) {
            x.fact(member, "r", 0, 389);
        }
        x.edition(0, 0, "rule a=sum n from 1 to 10 of (root(n+0.1)%0.3+best(r,3));rule b=len(with(join(r,r),5,a));"
                + "rule c=try 1/0 else b;rule due=sum n from 1 to 500 of (n*a/c);");
        for (int member = 0; member < 6; member++) {
            x.house.award(member, 0, 0);
        }
        x.house.clock(389);
        return x;
    }

    static void calls(Desk x, int times) {
        for (int i = 0; i < times; i++) {
            x.house.feed(0x647565L, 3);
            x.house.figure(i % 6, 0, 10, 0);
            x.house.step(1);
            x.house.balance(i % 6, 12);
            x.house.due(i % 6, 12, 389);
            x.house.feed(0x72756C6520647565L, 8);
            x.house.feed(0x3D313BL, 3);
            x.house.trial(0, 0, 0);
            x.house.run(i);
            x.house.advance(6);
        }
    }
}
