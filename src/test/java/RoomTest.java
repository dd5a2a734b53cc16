import java.lang.management.ManagementFactory;

/** What a run makes: little in the constructor, next to nothing in the calls. */
public final class RoomTest {
    private static long sum = 0;

    public static void main(String[] args) {
        com.sun.management.ThreadMXBean room = (com.sun.management.ThreadMXBean) ManagementFactory.getThreadMXBean();
        if (!room.isThreadAllocatedMemorySupported()) {
            Due.holds("this machine does not count", true);
            Due.end("RoomTest");
            return;
        }
        room.setThreadAllocatedMemoryEnabled(true);
        long id = Thread.currentThread().getId();
        run(new RingInSand());
        long ahead = room.getThreadAllocatedBytes(id);
        RingInSand x = new RingInSand();
        long made = room.getThreadAllocatedBytes(id) - ahead;
        Due.holds("a new object has 24000 bytes at most, not " + made, made <= 24000);
        ahead = room.getThreadAllocatedBytes(id);
        run(x);
        made = room.getThreadAllocatedBytes(id) - ahead;
        Due.holds("its calls make 4000 bytes at most, not " + made, made <= 4000);
        Due.holds("the answers are used", sum != 42);
        Due.end("RoomTest");
    }

    private static void run(RingInSand x) {
        for (int i = 0; i < 6; i++) {
            sum += x.looker(i, i);
        }
        for (int c = 0; c < 48; c++) {
            sum += x.set(0, c, 999999 - c);
        }
        for (int i = 0; i < 40; i++) {
            sum += x.plan(20, 0) + x.planned(19) + x.foundBy(i, 20) + x.giveUp(5) + x.drowned(1) + x.search();
            sum += x.sheet(0, i % 3, 40) + x.seen(0, 5) + x.judge(0) + x.found(0, 1) + x.image() + x.back();
        }
        String text = "deep trod;sea 0;shine sun;";
        for (int i = 0; i < text.length(); i++) {
            sum += x.feed(text.charAt(i));
        }
        sum += x.text();
    }
}
