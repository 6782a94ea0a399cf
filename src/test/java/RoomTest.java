import com.sun.management.ThreadMXBean;
import java.lang.management.ManagementFactory;

/** All calls of one run live in one room: no call but those that throw makes an object. */
public final class RoomTest {
    private static final String[] GAMES = {"33,jjjjjjjjjjjjjjjjjj", "222,jjjjjjjjjjjjjjjjjjjjjjjj",
        "33,jjikkikijjikikkijj", "22,pplqqljj"};
    private static final int SLACK = 4096;

    private static int[][] packed;
    private static int[] day;

    private static void tell(SoundAdvice x, int[] signs, int length) {
        x.end(0);
        for (int v : signs) {
            x.sign(v);
        }
        x.end(length);
    }

    private static long questions(SoundAdvice x) {
        long sum = x.sound() + x.tight() + x.values() + x.corner() + x.plans() + x.left() + x.which() + x.beyond();
        for (int i = 0; i < 3; i++) {
            sum += x.hangs(i) + x.map(i) + x.sure(i) + x.gain(i, 0, 1) + x.range(i, 1) + x.were(i, 1, 2);
        }
        for (int n = 1; n <= 6; n++) {
            sum += x.list(n) + x.number(n, 2) + x.near(n, 1);
            for (int what = 0; what < 8; what++) {
                sum += x.best(n, what);
            }
        }
        for (int rule = 0; rule < 2; rule++) {
            sum += x.play(rule, 5, 1, 60) + x.calm(rule, 5, 1, 4);
        }
        sum += x.mends() + x.mixed(0) + x.years(3, 30) + x.profile(1, 1, -1) + x.of(1, 3);
        return sum + x.count(6) + x.count(8);
    }

    private static long changes(SoundAdvice x) {
        long sum = x.lays(0, 3) + x.moves(0, 1) + x.takes(4, 7) + x.pays(1, 1, 4) + x.scales(0, -1, 1);
        sum += x.sheet(0, 0, 0, 4, 1, 1) + (x.keep(0) ? 1 : 0);
        tell(x, day, 15);
        sum += x.day() + x.undo();
        return sum + x.undo() + (x.again(0) ? 1 : 0);
    }

    private static long all(SoundAdvice[] objects) {
        long sum = 0;
        for (int k = 0; k < objects.length; k++) {
            tell(objects[k], packed[k], GAMES[k].length());
            sum += objects[k].game();
            sum += questions(objects[k]) + changes(objects[k]) + questions(objects[k]);
        }
        return sum;
    }

    public static void main(String[] args) {
        Watch.begin();
        packed = new int[GAMES.length][];
        SoundAdvice[] objects = new SoundAdvice[GAMES.length];
        for (int k = 0; k < GAMES.length; k++) {
            packed[k] = Signs.packed(GAMES[k]);
            objects[k] = new SoundAdvice();
        }
        day = Signs.packed("l0+2m01l1-1p03s");
        ThreadMXBean meter = (ThreadMXBean) ManagementFactory.getThreadMXBean();
        long self = Thread.currentThread().getId();
        long sum = all(objects);
        meter.getThreadAllocatedBytes(self);
        long before = meter.getThreadAllocatedBytes(self);
        for (int i = 0; i < 10; i++) {
            sum += all(objects);
        }
        long made = meter.getThreadAllocatedBytes(self) - before;
        System.out.println("made in some 5,000 calls: " + made + " bytes (sum " + sum + ")");
        if (made > SLACK) {
            System.exit(1);
        }
    }
}
