import java.lang.management.ManagementFactory;

/** The dearest calls, 512 of them on each of many objects: they make nothing, and an object itself is small. */
public final class RoomTest {
    private static final int OBJECTS = 200;

    public static void main(String[] args) {
        Checks checks = new Checks();
        com.sun.management.ThreadMXBean beans = (com.sun.management.ThreadMXBean) ManagementFactory.getThreadMXBean();
        long thread = Thread.currentThread().getId();
        String text = "RabcdRbcdeRcdeaRdeabEabEcdEeaCab**Cbc*aCcd.*Cd-**";
        long sum = 0;
        sum += oneRun(text);
        long before = beans.getThreadAllocatedBytes(thread);
        for (int i = 0; i < OBJECTS; i++) sum += oneRun(text);
        long each = (beans.getThreadAllocatedBytes(thread) - before) / OBJECTS;
        checks.dueTrue("answers were given", sum != 0);
        // about a tenth of the room's fields and elements for a run of one object would be some 5 MB
        checks.dueTrue("bytes for an object and its calls: " + each, each < 20000);
        checks.end();
    }

    private static long oneRun(String text) {
        WordKin x = new WordKin();
        long sum = 0;
        for (int i = 0; i < text.length(); i++) sum += x.write(text.charAt(i));
        sum += x.list();
        for (int i = 0; i < 12; i++) sum += x.tell(i / 3, i % 3, 123);
        for (int i = 0; i < 6; i++) sum += x.see(i % 3, i % 5, 1, 0);
        for (int i = 0; i < 40; i++) {
            sum += x.best(i % 3) + x.which(i % 2) + x.share(i % 4, true) + x.fails(i % 4, i % 3, 5, false);
            sum += x.judge(4, 1003400154006009L) + x.cross(i % 4, 3 - i % 4) + x.swap(i % 4, 0) + x.drawn(20);
            sum += x.keep(i % 2) + x.again(i % 2) + x.about(3);
        }
        return sum;
    }
}
