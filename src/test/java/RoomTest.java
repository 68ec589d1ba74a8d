import java.lang.management.ManagementFactory;

/** All calls of a run live in one room: an object takes little of it, and no call that answers takes any more. */
public final class RoomTest {
    private static final com.sun.management.ThreadMXBean THREADS =
        (com.sun.management.ThreadMXBean) ManagementFactory.getThreadMXBean();
    private static final int CONSTRUCTOR_BYTES = 40_000;

    public static void main(String[] args) {
        Check check = new Check();
        String rule = "alike 20-colours-sizes-(worn/3)*2 and 1+pattern*4+wool;likes alike*2+charm-holes;";
        StringBuilder ten = new StringBuilder(rule);
        for (int i = 0; i < 10; i++) {
            ten.append("plain ").append(i).append(" 0 ").append(i + 1).append(" 0 ").append(i).append(';');
        }
        // The first round loads classes and such; the second one is measured.
        for (int round = 0; round < 2; round++) {
            long start = used();
            SockFair x = new SockFair();
            long made = used() - start;
            Check.tape(x, ten.toString());
            long before = used();
            long sum = x.fair(ten.length());
            sum += all(x);
            long taken = used() - before;
            if (round == 1) {
                check.same("the constructor takes " + made + " bytes, a little", made < CONSTRUCTOR_BYTES, true);
                check.same("bytes that calls take", taken, 0);
            }
            check.same("ten", x.count(0), 10);
            check.same("something was asked", sum != 0, true);
        }
        check.end("RoomTest");
    }

    private static long used() {
        return THREADS.getThreadAllocatedBytes(Thread.currentThread().getId());
    }

    private static long all(SockFair x) {
        long sum = 0;
        for (int i = 0; i < 3; i++) {
            sum += x.feed(1, 2, 3, 4, 5) + x.fair(20) + x.fault() + x.count(4) + x.person(1, 8) + x.alike(0, 1);
            sum += x.liking(0, 1) + x.hold(1) + x.dye(1, i) + x.darn(2, 1) + x.unravel(i) + (x.bind(i, 9) ? 1 : 0);
            sum += x.undo() + x.then(1, 30) + x.when(2) + x.worn(3) + x.couples(5) + x.single(5) + x.closest();
            sum += x.lonely() + x.faithful() + x.most(-1) + x.most(1) + x.best() + x.rests(-1) + x.mates(3);
            sum += x.way(4, 6, 0) + x.knit(5) + x.see(0, 1, 2) + x.dyed(0) + x.dyed(2) + x.next(0) + x.basket(9, 2);
            sum += x.game(1, 2, 0) + x.ring() + x.generations(5, 60, 1) + x.far(0, 9) + x.circles() + x.lasts(1);
            x.image();
            sum += x.colour(1) + x.darner() + (x.restore() ? 1 : 0);
            x.forget();
        }
        return sum;
    }
}
