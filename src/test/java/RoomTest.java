import com.sun.management.ThreadMXBean;
import java.lang.management.ManagementFactory;
import java.util.Random;

/** No call makes an object, none throws and each ends, whatever it is given; a new object is small. */
public final class RoomTest {
    private static final Due due = new Due();
    private static final int[] EDGES = {
        Integer.MIN_VALUE, Integer.MIN_VALUE + 1, -65536, -10, -3, -2, -1, 0, 1, 2, 3, 4, 5, 6, 7, 8, 9, 10, 12, 13, 30, 31, 32, 33,
        60, 61, 63, 64, 400, 401, 1000, 1001, 2000, 2001, 65536, Integer.MAX_VALUE - 1, Integer.MAX_VALUE};

    public static void main(String[] args) {
        ThreadMXBean threads = (ThreadMXBean) ManagementFactory.getThreadMXBean();
        long self = Thread.currentThread().getId();
        Random random = new Random(1);
        int[] v = new int[6];
        long sum = 0;
        MainsLetters[] objects = new MainsLetters[200];
        long before = threads.getThreadAllocatedBytes(self);
        for (int i = 0; i < objects.length; i++) objects[i] = new MainsLetters();
        long each = (threads.getThreadAllocatedBytes(self) - before) / objects.length;
        due.holds("a new object takes " + each + " bytes, 4000 at most", each <= 4000);
        for (int round = 0; round < 2; round++) {
            before = threads.getThreadAllocatedBytes(self);
            for (MainsLetters x : objects) {
                for (int i = 0; i < 512; i++) sum += anyCall(x, random, v, i % 2 == 0);
            }
        }
        long made = threads.getThreadAllocatedBytes(self) - before;
        due.holds("calls made " + made + " bytes of objects", made <= 20000);
        due.holds("something was answered", sum != 0);
        due.end();
    }

    private static int any(Random random, boolean wild) {
        return wild ? EDGES[random.nextInt(EDGES.length)] : random.nextInt(7);
    }

    private static int anyCall(MainsLetters x, Random random, int[] v, boolean wild) {
        for (int i = 0; i < v.length; i++) v[i] = any(random, wild);
        switch (random.nextInt(18)) {
            case 0: return x.loss(v[0], v[1], v[2], v[3] * 9);
            case 1: return x.noise(v[0], v[1], v[2], v[3] * 9);
            case 2: return x.margin(v[0]);
            case 3: return x.key(v[0], v[1]);
            case 4: return x.bits(v[0], v[1], v[2], v[3]);
            case 5: return x.speed(v[0], v[1], v[2]);
            case 6: return x.who(v[0], v[1]);
            case 7: return x.lasts(v[0], v[1], v[2]);
            case 8: return x.way(v[0], v[1], v[2], v[3]);
            case 9: return x.seed(v[0]);
            case 10: return x.write(v[0], v[1], v[2], v[3]);
            case 11: return x.unwrite(v[0]);
            case 12: return x.pass(v[0]);
            case 13: return x.ofStation(v[0], v[1]);
            case 14: return x.flow(v[0], v[1], v[2], v[3], v[4], v[5]);
            case 15: return x.disturbs(v[0]);
            case 16: return x.turn(v[0]);
            default: return x.many(v[0]);
        }
    }
}
