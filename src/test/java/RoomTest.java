import java.lang.management.ManagementFactory;
import java.util.Random;

/** No call throws, whatever its arguments and the state are; and no call but the constructor makes anything. */
public final class RoomTest {
    private static final int[] FAR = {0, 1, -1, 2, 5, 6, 9, 10, 11, 12, 13, 23, 24, 40, 49, 50, 59, 60, 61, 99, 100, 120, 255, 256, 3020, 4095, 4096,
        9999, 10000, Integer.MAX_VALUE, Integer.MIN_VALUE, Integer.MAX_VALUE - 1, Integer.MIN_VALUE + 1, 1 << 16, -128, -129, 127, 128};

    public static void main(String[] args) {
        for (int seed = 0; seed < 4000; seed++) {
            wildRun(new Random(seed));
        }
        long made = dearestRun();
        // what the machine itself makes is little, a row for each call would be much more
        if (made > 20000) {
            System.out.println("some 400 of the dearest calls made " + made + " bytes");
            System.exit(1);
        }
        System.out.println("no call threw, and some 400 of the dearest calls made " + made + " bytes");
    }

    private static int any(Random r) {
        int dice = r.nextInt(12);
        return dice < 8 ? r.nextInt(8) - 1 : dice < 11 ? FAR[r.nextInt(FAR.length)] : r.nextInt();
    }

    private static void wildRun(Random r) {
        TalkStrainer x = new TalkStrainer();
        String signs = "0123456789shwfpl!-(()|&<=>+-*/%?;)";
        for (int n = 0; n < 512; n++) {
            int a = any(r);
            int b = any(r);
            int c = any(r);
            int d = any(r);
            int e = any(r);
            switch (r.nextInt(48)) {
                case 0: x.word(a, b); break;
                case 1: x.words(a, b, c); break;
                case 2: x.mesh(a); break;
                case 3: x.person(a); break;
                case 4: x.mend(a, b, c); break;
                case 5: x.of(a, b); break;
                case 6: x.feed(a); break;
                case 7: x.law(); break;
                case 8: x.lets(a, b); break;
                case 9: x.through(a, b, c); break;
                case 10: x.nth(a, b, c, d); break;
                case 11: x.several(a, b); break;
                case 12: x.say(a, b, c); break;
                case 13: x.finest(a); break;
                case 14: x.keeps(a); break;
                case 15: x.leastLost(a); break;
                case 16: x.most(a); break;
                case 17: x.said(a, b); break;
                case 18: x.saidAt(a, b, c); break;
                case 19: x.alone(a, b, c); break;
                case 20: x.howFine(a, b); break;
                case 21: x.between(a, b, c); break;
                case 22: x.meant(a, b, c); break;
                case 23: x.likely(a, b, c, d); break;
                case 24: x.game(a, b); break;
                case 25: x.drawn(a, r.nextBoolean() ? 3020 : b, c, d); break;
                case 26: x.speak(a, b); break;
                case 27: x.rinse(a); break;
                case 28: x.led(a); break;
                case 29: x.image(); break;
                case 30: x.back(); break;
                case 31: x.undo(); break;
                case 32: x.redo(); break;
                case 33: x.body(a); break;
                case 34: x.act(a, b, c); break;
                case 35: x.trace(a); break;
                case 36: x.keep(a, b); break;
                case 37: case 38: x.row(a, b, c); break;
                case 39: case 40: case 41: x.put(a, b, r.nextBoolean() ? c : r.nextLong()); break;
                case 42: x.element(a, b); break;
                case 43: x.shift(a, b, c, d, e); break;
                case 44: x.taken(a, b); break;
                case 45: x.count(a); break;
                default: x.feed(signs.charAt(r.nextInt(signs.length())));
            }
        }
    }

    private static long dearestRun() {
        TalkStrainer x = new TalkStrainer();
        dear(x, 40);
        com.sun.management.ThreadMXBean beans = (com.sun.management.ThreadMXBean) ManagementFactory.getThreadMXBean();
        long id = Thread.currentThread().getId();
        beans.getThreadAllocatedBytes(id);
        TalkStrainer y = new TalkStrainer();
        long before = beans.getThreadAllocatedBytes(id);
        dear(y, 400);
        return beans.getThreadAllocatedBytes(id) - before;
    }

    private static void dear(TalkStrainer x, int calls) {
        for (int w = 0; w < 12; w++) {
            x.word(w % 10, 9 - w % 10);
            x.mend(w, 3, w % 3);
        }
        x.mesh(1);
        x.person(9);
        x.row(0, 0, 12);
        x.row(1, 0, 4);
        for (int k = 0; k < 60; k++) {
            x.feed(k % 2 == 0 ? 's' : k % 4 == 1 ? '+' : '%');
        }
        x.feed('p');
        x.law();
        x.body(5);
        for (int n = 0; n < calls; n++) {
            switch (n % 16) {
                case 0: x.say(1, 0, -1); break;
                case 1: x.said(1, 0); break;
                case 2: x.saidAt(11, 0, 0); break;
                case 3: x.alone(1, 0, 4); break;
                case 4: x.game(0, 0); break;
                case 5: x.drawn(n, 3020, 0, 1); break;
                case 6: x.most(1); break;
                case 7: x.between(0, 0, 5); break;
                case 8: x.several(10, 1); break;
                case 9: x.speak(0, 0); break;
                case 10: x.act(0, 3, n); break;
                case 11: x.row(2, n % 5, 60); break;
                case 12: x.image(); break;
                case 13: x.back(); break;
                case 14: x.mend(0, 0, n % 10); break;
                default: x.undo();
            }
        }
    }
}
