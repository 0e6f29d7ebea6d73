import java.util.ArrayList;
import java.util.Arrays;
import java.util.Collections;
import java.util.HashMap;
import java.util.List;
import java.util.Map;
import java.util.Random;

/**
 * Random runs of calls, each answered by the class and by a model that works in another way: the law is
 * split as a text, sayings are tried one by one, acts are real Java classes.
 */
public final class ModelTest {
    private static final long MIN = Long.MIN_VALUE;
    private static int wrong = 0;

    public static void main(String[] args) {
        int calls = 0;
        for (int seed = 1; seed <= 1500 && wrong < 10; seed++) {
            calls += oneRun(seed);
        }
        for (int seed = 1; seed <= 60000 && wrong < 10; seed++) {
            lawRun(seed);
        }
        for (int seed = 1; seed <= 6000 && wrong < 10; seed++) {
            calls += puzzleRun(seed);
        }
        for (int seed = 1; seed <= 300 && wrong < 10; seed++) {
            calls += mendRun(seed);
        }
        System.out.println(wrong == 0 ? "model and class agree on " + calls + " calls" : wrong + " answers differ");
        if (wrong != 0) {
            System.exit(1);
        }
    }

    // ---- random runs

    private static final String[] OPS = {
        "word", "words", "mesh", "person", "mend", "of", "feed", "law", "lets", "through", "nth", "several", "say",
        "finest", "keeps", "leastLost", "most", "said", "saidAt", "alone", "howFine", "between", "meant", "likely",
        "game", "drawn", "speak", "rinse", "led", "image", "back", "undo", "redo", "body", "act", "trace", "keep",
        "row", "put", "element", "shift", "taken", "count", "TEXT", "SAYING", "SAYING", "SAYING", "mend", "mend"};

    private static int oneRun(int seed) {
        Random r = new Random(seed);
        TalkStrainer real = new TalkStrainer();
        Model model = new Model();
        List<String> log = new ArrayList<>();
        int words = r.nextInt(7);
        int calls = 0;
        List<long[]> queue = new ArrayList<>();
        List<String> names = new ArrayList<>();
        for (int i = 0; i < words; i++) {
            add(queue, names, "word", r.nextInt(10), r.nextInt(10));
            if (r.nextInt(3) != 0) {
                add(queue, names, "mend", i, 3, r.nextInt(3));
                add(queue, names, "mend", i, 4, r.nextInt(3));
                add(queue, names, "mend", i, 2, r.nextInt(6));
            }
        }
        for (int i = r.nextInt(4); i > 0; i--) {
            add(queue, names, "mesh", r.nextInt(10));
        }
        for (int i = r.nextInt(4); i > 0; i--) {
            add(queue, names, "person", r.nextInt(10));
        }
        while (calls < 500) {
            while (queue.isEmpty()) {
                fill(r, queue, names, model);
            }
            String op = names.remove(0);
            long[] a = queue.remove(0);
            long want = model.call(op, a);
            long got = real(real, op, a);
            calls++;
            String told = op + Arrays.toString(a) + " = " + got;
            log.add(told);
            if (want != got) {
                wrong++;
                System.out.println("run " + seed + ": " + told + ", due is " + want);
                System.out.println("  " + String.join("; ", log));
                return calls;
            }
        }
        return calls;
    }

    private static void add(List<long[]> queue, List<String> names, String name, long... a) {
        queue.add(a);
        names.add(name);
    }

    private static long around(Random r, int least, int most) {
        int dice = r.nextInt(60);
        if (dice == 0) {
            return least - 1;
        }
        if (dice == 1) {
            return most + 1;
        }
        if (dice == 2) {
            int[] far = {Integer.MIN_VALUE, Integer.MAX_VALUE, -100, 1000, 12345};
            return far[r.nextInt(far.length)];
        }
        return least + r.nextInt(most - least + 1);
    }

    private static void fill(Random r, List<long[]> queue, List<String> names, Model m) {
        String op = OPS[r.nextInt(OPS.length)];
        int meshes = Math.max(0, m.meshes.size() - 1);
        // a model that tries sayings one by one wants few words
        boolean few = m.words.size() <= 6;
        switch (op) {
            case "TEXT": {
                for (char c : text(r).toCharArray()) {
                    add(queue, names, "feed", c);
                }
                add(queue, names, "law");
                return;
            }
            case "SAYING": {
                int shelf = r.nextInt(6);
                int n = r.nextInt(r.nextInt(8) == 0 ? 16 : 6);
                add(queue, names, "row", shelf, 0, n);
                for (int i = 0; i < n; i++) {
                    int dice = r.nextInt(25);
                    long v = dice == 0 ? -1 : dice == 1 ? m.words.size() : r.nextInt(Math.max(1, m.words.size()));
                    add(queue, names, "put", shelf, i, v);
                }
                return;
            }
            case "word": if (!few && r.nextInt(4) != 0) return; add(queue, names, op, around(r, 0, 9), around(r, 0, 9)); return;
            case "words": if (r.nextInt(4) != 0) return; add(queue, names, op, around(r, 0, 5), around(r, 0, 6), around(r, 1, 12)); return;
            case "mesh": case "person": if (r.nextInt(3) != 0) return; add(queue, names, op, around(r, 0, 9)); return;
            case "mend": {
                long what = around(r, 0, 7);
                long number = what == 7 ? around(r, 0, 0) : around(r, 0, what == 5 ? meshes : Math.max(0, m.words.size() - 1));
                long v = what == 3 ? around(r, 0, 2) : what == 4 ? around(r, 0, 5) : what == 7 ? around(r, 0, 20) : around(r, 0, 9);
                add(queue, names, op, number, what, v);
                return;
            }
            case "of": add(queue, names, op, around(r, 0, r.nextBoolean() ? 0 : 5), around(r, 0, 9)); return;
            case "feed": add(queue, names, op, around(r, 0, 255)); return;
            case "law": case "image": case "back": case "undo": case "redo": add(queue, names, op); return;
            case "lets": add(queue, names, op, around(r, 0, 12) * 10 + around(r, 0, meshes), around(r, 0, 9999)); return;
            case "through": add(queue, names, op, around(r, 0, 5), around(r, -1, meshes), around(r, 0, 5)); return;
            case "nth": add(queue, names, op, around(r, 0, 5), around(r, -1, meshes), around(r, 0, 6), around(r, 0, 1)); return;
            case "several": add(queue, names, op, around(r, 0, 59), around(r, 0, 1)); return;
            case "say": if (!few) return; add(queue, names, op, around(r, 0, 5), around(r, -1, meshes), around(r, -1, 5)); return;
            case "finest": case "leastLost": add(queue, names, op, around(r, 0, 5)); return;
            case "keeps": add(queue, names, op, around(r, 0, r.nextBoolean() ? 4095 : (1 << m.words.size()) - 1)); return;
            case "most": add(queue, names, op, around(r, 0, 1)); return;
            case "said": add(queue, names, op, around(r, 0, 59), around(r, -1, meshes)); return;
            case "saidAt": add(queue, names, op, around(r, 0, 59), around(r, -1, meshes), around(r, 0, 8)); return;
            case "alone": if (!few) return; add(queue, names, op, around(r, 0, 5), around(r, -1, meshes), around(r, 0, 4)); return;
            case "howFine": add(queue, names, op, around(r, 0, 59), around(r, 0, 1)); return;
            case "between": add(queue, names, op, around(r, 0, 5), around(r, -1, meshes), around(r, 0, 6)); return;
            case "meant": add(queue, names, op, around(r, 0, 5), around(r, -1, meshes), around(r, 0, 1)); return;
            case "likely": add(queue, names, op, around(r, 0, 5), around(r, -1, meshes), around(r, 0, 5), around(r, 0, 1)); return;
            case "game": if (m.words.size() > 7 && r.nextInt(8) != 0) return; add(queue, names, op, around(r, -1, meshes), around(r, 0, 1)); return;
            case "drawn": add(queue, names, op, r.nextInt(), around(r, 1, 30) * 100 + around(r, 1, 20), around(r, -1, meshes), around(r, 0, 1)); return;
            case "speak": add(queue, names, op, around(r, 0, 5), around(r, -1, meshes)); return;
            case "rinse": add(queue, names, op, around(r, 0, meshes)); return;
            case "led": add(queue, names, op, around(r, 0, 5)); return;
            case "body": add(queue, names, op, around(r, 0, 7)); return;
            case "act": add(queue, names, op, around(r, 0, Math.max(0, m.bodies.size() - 1)), around(r, 0, 3), r.nextBoolean() ? r.nextInt() : r.nextInt(20)); return;
            case "trace": add(queue, names, op, around(r, 0, 9)); return;
            case "keep": if (r.nextInt(3) != 0) return; add(queue, names, op, around(r, 0, 5), around(r, -1, Math.max(0, m.bodies.size() - 1))); return;
            case "row": if (r.nextInt(3) != 0) return; add(queue, names, op, around(r, 0, 5), around(r, 0, 4), around(r, 0, 60)); return;
            case "put": add(queue, names, op, around(r, 0, 5), around(r, 0, 10), r.nextBoolean() ? r.nextLong() : r.nextInt(5)); return;
            case "element": add(queue, names, op, around(r, 0, 5), around(r, 0, 10)); return;
            case "shift": add(queue, names, op, around(r, 0, 5), around(r, 0, 6), around(r, 0, 5), around(r, 0, 6), around(r, 0, 6)); return;
            case "taken": add(queue, names, op, around(r, 0, 5), around(r, 0, 7)); return;
            default: add(queue, names, "count", around(r, 0, 6));
        }
    }

    private static final String SIGNS = "0123456789shwfpl!-(()|&<=>+-*/%?;) x";

    private static String text(Random r) {
        StringBuilder b = new StringBuilder();
        int lines = 1 + r.nextInt(3);
        for (int i = 0; i < lines; i++) {
            if (i > 0) {
                b.append(';');
            }
            if (r.nextInt(3) == 0) {
                expression(r, b, 2);
                b.append('?');
            }
            expression(r, b, 2);
        }
        if (r.nextInt(4) == 0 && b.length() > 0) {
            int at = r.nextInt(b.length());
            switch (r.nextInt(3)) {
                case 0: b.setCharAt(at, SIGNS.charAt(r.nextInt(SIGNS.length()))); break;
                case 1: b.deleteCharAt(at); break;
                default: b.insert(at, SIGNS.charAt(r.nextInt(SIGNS.length())));
            }
        }
        if (b.length() > 120) {
            b.setLength(120);
        }
        return b.toString();
    }

    private static void expression(Random r, StringBuilder b, int depth) {
        int parts = 1 + r.nextInt(3);
        for (int i = 0; i < parts; i++) {
            if (i > 0) {
                b.append("|&<=>+-*/%+-<>&|".charAt(r.nextInt(16)));
            }
            for (int u = r.nextInt(6) == 0 ? r.nextInt(7) : 0; u > 0; u--) {
                b.append(r.nextBoolean() ? '!' : '-');
            }
            int dice = r.nextInt(6);
            if (dice == 0 && depth > 0) {
                b.append('(');
                expression(r, b, depth - 1);
                b.append(')');
            } else if (dice < 4) {
                b.append("shwfpl".charAt(r.nextInt(6)));
            } else {
                b.append(r.nextInt(r.nextInt(5) == 0 ? 11000 : 12));
            }
        }
    }

    /** A saying that makes sense is strained, and all that can be asked of what came and was left is asked. */
    private static int puzzleRun(int seed) {
        Random r = new Random(seed * 77L + 5);
        Both b = new Both("puzzle " + seed);
        int words = 3 + r.nextInt(3);
        for (int w = 0; w < words; w++) {
            b.ask("word", r.nextInt(10), r.nextInt(10));
            b.ask("mend", w, 2, r.nextInt(8));
            b.ask("mend", w, 3, w < 3 ? w : 2);
            b.ask("mend", w, 4, r.nextInt(3));
        }
        for (int k = 0; k < 3; k++) {
            b.ask("mesh", r.nextInt(10));
            b.ask("person", r.nextInt(10));
        }
        if (r.nextInt(4) != 0) {
            String[] laws = {"p-l*2+1", "!((p+s)%3)|h<3", "s+p<f+5", "l<2?s<5;h<5", "p%2|w>3", "(s+h+l)%3", "l%2?p>3;s-4",
                "p=0|s<f", "h<4&l<3|p=4", "9-p-h", "l?!(s%2);s%2", "-s+5;1", "p<2?1;l<p/2?0;s-h"};
            String law = r.nextInt(3) == 0 ? text(r) : laws[r.nextInt(laws.length)];
            for (char c : law.toCharArray()) {
                b.ask("feed", c);
            }
            b.ask("law");
        }
        int mesh = r.nextInt(3);
        List<Integer> s = new ArrayList<>(List.of(0, 1));
        for (int n = r.nextInt(r.nextInt(10) == 0 ? 10 : 6); n > 0; n--) {
            s.add(2 + r.nextInt(words - 2));
        }
        Strained t = b.model.strain(s, b.model.fine(mesh), 0);
        b.lay(0, t.came);
        b.lay(1, t.left);
        b.lay(2, s);
        b.lay(3, List.of(r.nextInt(3), r.nextInt(3), r.nextInt(3)));
        for (int k = -1; k <= s.size(); k++) {
            b.ask("say", 0, mesh, k);
            b.ask("saidAt", 1, mesh, k);
            b.ask("between", 2, mesh, k);
            b.ask("nth", 2, mesh, k, 0);
            b.ask("nth", 2, mesh, k, 1);
        }
        b.ask("said", 1, mesh);
        b.ask("said", 10, mesh);
        for (int n = 0; n <= 4 && t.came.size() < 8; n++) {
            b.ask("alone", 0, mesh, n);
        }
        for (int what = 0; what <= 5; what++) {
            b.ask("through", 2, mesh, what);
            b.ask("likely", 2, mesh, what, 0);
            b.ask("likely", 2, mesh, what, 1);
        }
        for (int what = 0; what <= 1; what++) {
            b.ask("howFine", 20, what);
            b.ask("several", 23, what);
            b.ask("meant", 2, mesh, what);
            b.ask("game", mesh, what);
            b.ask("most", what);
            b.ask("drawn", r.nextInt(), 100 * (1 + r.nextInt(30)) + 1 + r.nextInt(20), mesh, what);
        }
        b.ask("finest", 0);
        b.ask("leastLost", 2);
        int kept = 0;
        for (int w = 0; w < words; w++) {
            kept |= b.model.passes(w, b.model.fine(mesh), 0, 0) ? 0 : 1 << w;
        }
        b.ask("keeps", kept);
        for (int n = 0; n < 3; n++) {
            b.ask("speak", n, mesh);
            b.ask("of", mesh, 8);
            b.ask("of", mesh, 9);
        }
        for (int what = 0; what <= 5; what++) {
            b.ask("led", what);
        }
        return b.calls;
    }

    /** More changes than are kept, gone back and on again. */
    private static int mendRun(int seed) {
        Random r = new Random(seed * 13L + 1);
        Both b = new Both("mend " + seed);
        for (int n = 0; n < 3; n++) {
            b.ask("word", r.nextInt(10), r.nextInt(10));
            b.ask("mesh", r.nextInt(10));
            b.ask("person", r.nextInt(10));
        }
        for (int n = 0; n < 60; n++) {
            for (int times = r.nextInt(r.nextInt(4) == 0 ? 30 : 5); times > 0 && b.calls < 280; times--) {
                int what = r.nextInt(8);
                b.ask("mend", what == 7 ? 0 : r.nextInt(3), what, r.nextInt(3));
            }
            for (int times = r.nextInt(5); times > 0; times--) {
                b.ask(r.nextInt(3) == 0 ? "redo" : "undo");
                b.ask("count", 4);
            }
            if (b.calls > 280) {
                break;
            }
        }
        for (int what = 0; what <= 7; what++) {
            for (int number = 0; number < 3; number++) {
                b.ask("of", number, what);
            }
        }
        for (int n = 0; n < 42; n++) {
            b.ask("undo");
            b.ask("of", r.nextInt(3), r.nextInt(7));
        }
        for (int what = 0; what <= 7; what++) {
            for (int number = 0; number < 3; number++) {
                b.ask("of", number, what);
            }
        }
        return b.calls;
    }

    /** The class and the model, asked the same. */
    private static final class Both {
        final TalkStrainer real = new TalkStrainer();
        final Model model = new Model();
        final List<String> log = new ArrayList<>();
        final String name;
        int calls = 0;
        boolean failed = false;

        Both(String name) {
            this.name = name;
        }

        void ask(String op, long... a) {
            long want = model.call(op, a);
            long got = real(real, op, a);
            calls++;
            log.add(op + Arrays.toString(a) + " = " + got);
            if (want != got && !failed) {
                failed = true;
                wrong++;
                System.out.println(name + ": " + op + Arrays.toString(a) + " answered " + got + ", due is " + want);
                System.out.println("  " + String.join("; ", log));
            }
        }

        void lay(int shelf, List<Integer> words) {
            ask("row", shelf, 0, words.size());
            for (int at = 0; at < words.size(); at++) {
                ask("put", shelf, at, words.get(at));
            }
        }
    }

    /** One law, worked out at several places. */
    private static void lawRun(int seed) {
        Random r = new Random(seed * 31L + 7);
        TalkStrainer real = new TalkStrainer();
        Model model = new Model();
        String text = text(r);
        if (r.nextInt(10) == 0) {
            StringBuilder b = new StringBuilder();
            for (int n = r.nextInt(30); n > 0; n--) {
                b.append(SIGNS.charAt(r.nextInt(SIGNS.length())));
            }
            text = b.toString();
        }
        for (char c : text.toCharArray()) {
            real.feed(c);
            model.call("feed", new long[] {c});
        }
        long want = model.call("law", new long[0]);
        long got = real.law();
        if (want != got) {
            wrong++;
            System.out.println("law " + text + " answered " + got + ", due is " + want);
            return;
        }
        long[][] setup = {{r.nextInt(10), r.nextInt(10)}};
        real.word((int) setup[0][0], (int) setup[0][1]);
        model.call("word", setup[0]);
        int sweet = r.nextInt(10);
        real.mend(0, 2, sweet);
        model.call("mend", new long[] {0, 2, sweet});
        int fine = r.nextInt(10);
        real.mesh(fine);
        model.call("mesh", new long[] {fine});
        for (int i = 0; i < 6; i++) {
            int pl = r.nextInt(10000);
            long due = model.call("lets", new long[] {0, pl});
            long is = real.lets(0, pl);
            if (due != is) {
                wrong++;
                System.out.println("law " + text + " word " + Arrays.toString(setup[0]) + " sweet " + sweet + " fine " + fine
                    + ": lets(0, " + pl + ") answered " + is + ", due is " + due);
            }
        }
    }

    private static long real(TalkStrainer x, String op, long[] l) {
        int[] a = new int[6];
        for (int i = 0; i < l.length; i++) {
            a[i] = (int) l[i];
        }
        switch (op) {
            case "word": return x.word(a[0], a[1]);
            case "words": return x.words(a[0], a[1], a[2]);
            case "mesh": return x.mesh(a[0]);
            case "person": return x.person(a[0]);
            case "mend": return x.mend(a[0], a[1], a[2]);
            case "of": return x.of(a[0], a[1]);
            case "feed": return x.feed(a[0]);
            case "law": return x.law();
            case "lets": return x.lets(a[0], a[1]);
            case "through": return x.through(a[0], a[1], a[2]);
            case "nth": return x.nth(a[0], a[1], a[2], a[3]);
            case "several": return x.several(a[0], a[1]);
            case "say": return x.say(a[0], a[1], a[2]);
            case "finest": return x.finest(a[0]);
            case "keeps": return x.keeps(a[0]);
            case "leastLost": return x.leastLost(a[0]);
            case "most": return x.most(a[0]);
            case "said": return x.said(a[0], a[1]);
            case "saidAt": return x.saidAt(a[0], a[1], a[2]);
            case "alone": return x.alone(a[0], a[1], a[2]);
            case "howFine": return x.howFine(a[0], a[1]);
            case "between": return x.between(a[0], a[1], a[2]);
            case "meant": return x.meant(a[0], a[1], a[2]);
            case "likely": return x.likely(a[0], a[1], a[2], a[3]);
            case "game": return x.game(a[0], a[1]);
            case "drawn": return x.drawn(a[0], a[1], a[2], a[3]);
            case "speak": return x.speak(a[0], a[1]);
            case "rinse": return x.rinse(a[0]);
            case "led": return x.led(a[0]);
            case "image": return x.image();
            case "back": return x.back();
            case "undo": return x.undo();
            case "redo": return x.redo();
            case "body": return x.body(a[0]);
            case "act": return x.act(a[0], a[1], a[2]);
            case "trace": return x.trace(a[0]);
            case "keep": return x.keep(a[0], a[1]);
            case "row": return x.row(a[0], a[1], a[2]);
            case "put": return x.put(a[0], a[1], l[2]);
            case "element": return x.element(a[0], a[1]);
            case "shift": return x.shift(a[0], a[1], a[2], a[3], a[4]);
            case "taken": return x.taken(a[0], a[1]);
            case "count": return x.count(a[0]);
            default: throw new IllegalStateException(op);
        }
    }

    // ---- the model

    private static final class Refusal extends RuntimeException {
        final int answer;

        Refusal(int answer) {
            super(null, null, false, false);
            this.answer = answer;
        }
    }

    private static void need(boolean holds, int answer) {
        if (!holds) {
            throw new Refusal(answer);
        }
    }

    private interface Passes {
        Model model();

        int n();

        default int passes(int x) {
            model().ran.add(1);
            return x + n();
        }
    }

    private interface Tells {
        Model model();

        int stays(int x);

        int hurts(int x);

        default int tells(int x) {
            model().ran.add(2);
            return stays(x) - hurts(1);
        }
    }

    private static class Leaf implements Passes, Tells {
        Model m;
        int n;

        public Model model() {
            return m;
        }

        public int n() {
            return n;
        }

        public int stays(int x) {
            m.ran.add(10);
            return passes(x) * 2;
        }

        public int hurts(int x) {
            m.ran.add(11);
            return x ^ n;
        }
    }

    private static class Tea extends Leaf {
        public int passes(int x) {
            m.ran.add(20);
            return super.passes(x) + 3;
        }
    }

    private static class Barb extends Leaf {
        public int stays(int x) {
            m.ran.add(30);
            return -super.stays(x);
        }
    }

    private static class Compliment extends Barb {
        public int hurts(int x) {
            m.ran.add(40);
            return super.hurts(x) * 3;
        }

        public int stays(int x) {
            m.ran.add(41);
            return super.stays(x + 1);
        }
    }

    private static class Tuesday extends Tea {
        public int tells(int x) {
            m.ran.add(50);
            return super.tells(x) ^ 5;
        }
    }

    private static class Preacher extends Compliment {
        public int hurts(int x) {
            m.ran.add(60);
            return super.hurts(x) - passes(2);
        }

        public int tells(int x) {
            m.ran.add(61);
            return super.tells(x) + 1;
        }
    }

    private static class Maid extends Leaf {
        public int passes(int x) {
            m.ran.add(70);
            return super.passes(x) * 2;
        }
    }

    private static class Shadow extends Maid {
        public int stays(int x) {
            m.ran.add(80);
            return super.stays(x) + hurts(2);
        }

        public int passes(int x) {
            m.ran.add(81);
            return super.passes(x) - 1;
        }
    }

    private static final Class<?>[] KINDS = {
        Leaf.class, Tea.class, Barb.class, Compliment.class, Tuesday.class, Preacher.class, Maid.class, Shadow.class};

    private static Leaf leaf(int kind) {
        switch (kind) {
            case 0: return new Leaf();
            case 1: return new Tea();
            case 2: return new Barb();
            case 3: return new Compliment();
            case 4: return new Tuesday();
            case 5: return new Preacher();
            case 6: return new Maid();
            default: return new Shadow();
        }
    }

    private static final class Strained {
        final List<Integer> came = new ArrayList<>();
        final List<Integer> left = new ArrayList<>();
    }

    private static final class Model {
        final List<int[]> words = new ArrayList<>();
        final List<int[]> meshes = new ArrayList<>();
        final List<int[]> people = new ArrayList<>();
        final int[] bends = {12};
        StringBuilder tape = new StringBuilder();
        String law = null;
        final Map<List<Integer>, Boolean> worked = new HashMap<>();
        final List<int[]> done = new ArrayList<>();
        final List<int[]> undone = new ArrayList<>();
        int[] led = new int[6];
        Map<Integer, int[]> lying = new HashMap<>();
        int[] imageLed = null;
        Map<Integer, int[]> imageLying = null;
        final List<Leaf> bodies = new ArrayList<>();
        List<Integer> ran = new ArrayList<>();
        final Object[] shelves = new Object[6];

        long call(String op, long[] l) {
            try {
                return answer(op, l);
            } catch (Refusal r) {
                boolean isLong = op.equals("said") || op.equals("alone") || op.equals("likely") || op.equals("element");
                return isLong ? MIN : r.answer;
            }
        }

        private long answer(String op, long[] l) {
            int[] a = new int[6];
            for (int i = 0; i < l.length; i++) {
                a[i] = (int) l[i];
            }
            switch (op) {
                case "word": {
                    need(a[0] >= 0 && a[0] <= 9 && a[1] >= 0 && a[1] <= 9, -1);
                    need(words.size() < 12, -3);
                    words.add(new int[] {a[0], a[1], 0, 2, 0});
                    return words.size() - 1;
                }
                case "words": return wordsFrom(a[0], a[1], a[2]);
                case "mesh": {
                    need(a[0] >= 0 && a[0] <= 9, -1);
                    need(meshes.size() < 5, -3);
                    meshes.add(new int[] {a[0]});
                    return meshes.size() - 1;
                }
                case "person": {
                    need(a[0] >= 0 && a[0] <= 9, -1);
                    need(people.size() < 6, -3);
                    people.add(new int[] {a[0]});
                    return people.size() - 1;
                }
                case "mend": return mend(a[0], a[1], a[2]);
                case "of": {
                    if (a[1] == 8 || a[1] == 9) {
                        mesh(a[0], false);
                        return lies(a[0])[a[1] - 8];
                    }
                    int[] cell = cell(a[0], a[1]);
                    return cell[a[1] < 5 ? a[1] : 0];
                }
                case "feed": {
                    need(a[0] >= 0 && a[0] <= 255, -1);
                    need(tape.length() < 120, -3);
                    tape.append((char) a[0]);
                    return tape.length();
                }
                case "law": {
                    String text = tape.toString();
                    tape = new StringBuilder();
                    int fault = fault(text);
                    if (fault >= 0) {
                        return -100 - fault;
                    }
                    law = text;
                    worked.clear();
                    return 1;
                }
                case "lets": {
                    need(a[0] >= 0 && a[1] >= 0 && a[1] <= 9999 && a[0] / 10 < words.size() && a[0] % 10 < meshes.size(), -1);
                    return passes(a[0] / 10, meshes.get(a[0] % 10)[0], a[1] / 100, a[1] % 100) ? 1 : 0;
                }
                case "through": return through(a[0], a[1], a[2]);
                case "nth": {
                    need(a[2] >= 0 && (a[3] == 0 || a[3] == 1), -1);
                    mesh(a[1], true);
                    Strained s = strain(saying(a[0]), fine(a[1]), 0);
                    List<Integer> row = a[3] == 0 ? s.came : s.left;
                    need(a[2] < row.size(), -2);
                    return row.get(a[2]);
                }
                case "several": return several(a[0], a[1]);
                case "say": {
                    need(a[2] >= -1, -1);
                    mesh(a[1], true);
                    List<Integer> told = saying(a[0]);
                    for (int length = 2; length <= 10; length++) {
                        List<Integer> found = new ArrayList<>();
                        if (trySay(found, told, fine(a[1]), length)) {
                            need(a[2] < found.size(), -2);
                            return a[2] == -1 ? found.size() : found.get(a[2]);
                        }
                    }
                    return -2;
                }
                case "finest": {
                    List<Integer> s = saying(a[0]);
                    int best = -2;
                    for (int f = 0; f <= 9; f++) {
                        if (strain(s, f, 0).came.equals(s)) {
                            best = f;
                        }
                    }
                    return best;
                }
                case "keeps": {
                    need(a[0] >= 0 && a[0] <= 4095, -1);
                    int bits = 0;
                    for (int k = 0; k < meshes.size(); k++) {
                        int kept = 0;
                        for (int w = 0; w < words.size(); w++) {
                            kept |= strain(List.of(w), fine(k), 0).left.isEmpty() ? 0 : 1 << w;
                        }
                        bits |= kept == (a[0] & ((1 << words.size()) - 1)) ? 1 << k : 0;
                    }
                    return bits;
                }
                case "leastLost": {
                    List<Integer> s = saying(a[0]);
                    int best = -2;
                    int least = Integer.MAX_VALUE;
                    for (int k = 0; k < meshes.size(); k++) {
                        Strained t = strain(s, fine(k), 0);
                        int lost = sum(t.left, 2);
                        if (hurts(t.came) == 0 && lost < least) {
                            least = lost;
                            best = k;
                        }
                    }
                    return best;
                }
                case "most": {
                    need(a[0] == 0 || a[0] == 1, -1);
                    int best = 0;
                    for (int set = (1 << words.size()) - 1; set >= 0; set--) {
                        List<Integer> s = new ArrayList<>();
                        for (int w = 0; w < words.size(); w++) {
                            if ((set >> w) % 2 == 1) {
                                s.add(w);
                            }
                        }
                        if (hurts(s) == 0 && s.size() >= Integer.bitCount(best)) {
                            best = set;
                        }
                    }
                    return a[0] == 0 ? Integer.bitCount(best) : best;
                }
                case "said": return merged(a[0], a[1]).size();
                case "saidAt": {
                    need(a[2] >= 0, -1);
                    List<List<Integer>> all = merged(a[0], a[1]);
                    need(!all.isEmpty(), -2);
                    List<Integer> first = all.get(0);
                    for (List<Integer> one : all) {
                        if (key(one).compareTo(key(first)) < 0) {
                            first = one;
                        }
                    }
                    need(a[2] < first.size(), -2);
                    return first.get(a[2]);
                }
                case "alone": {
                    need(a[2] >= 0 && a[2] <= 4, -1);
                    mesh(a[1], true);
                    List<Integer> came = saying(a[0]);
                    return came.size() + a[2] > 12 ? 0 : tryAlone(came, 0, 0, a[2], fine(a[1]));
                }
                case "howFine": {
                    need(a[1] == 0 || a[1] == 1, -1);
                    pair(a[0]);
                    List<Integer> all = new ArrayList<>();
                    for (int f = 0; f <= 9; f++) {
                        if (strain(saying(a[0] / 10), f, 0).came.equals(saying(a[0] % 10))) {
                            all.add(f);
                        }
                    }
                    return a[1] == 0 ? all.size() : all.isEmpty() ? -2 : Collections.min(all);
                }
                case "between": return between(a[0], a[1], a[2]);
                case "meant": return meant(a[0], a[1], a[2]);
                case "likely": {
                    need(a[2] >= 0 && a[2] <= 5 && (a[3] == 0 || a[3] == 1), -1);
                    mesh(a[1], true);
                    int[] harm = harms(strain(saying(a[0]), fine(a[1]), 0).left);
                    int all = Arrays.stream(harm).sum();
                    int of = harm[a[2]];
                    if (of == 0) {
                        return a[3];
                    }
                    for (int d = of; d >= 1; d--) {
                        if (of % d == 0 && all % d == 0) {
                            return a[3] == 0 ? of / d : all / d;
                        }
                    }
                    return 0;
                }
                case "game": {
                    mesh(a[0], false);
                    need(a[1] == 0 || a[1] == 1, -1);
                    for (int w = 0; w < Math.min(10, words.size()); w++) {
                        if (passes(w, fine(a[0]), 0, 0) && !wins(1 << w, fine(a[0]), new HashMap<>())) {
                            return a[1] == 0 ? 1 : w;
                        }
                    }
                    return a[1] == 0 ? 0 : -2;
                }
                case "drawn": return drawn(a[0], a[1], a[2], a[3]);
                case "speak": {
                    mesh(a[1], false);
                    List<Integer> s = saying(a[0]);
                    int[] in = lies(a[1]);
                    Strained t = strain(s, fine(a[1]), in[0]);
                    in[0] += t.left.size();
                    in[1] += sum(t.left, 1);
                    led[0]++;
                    led[1] += t.came.size();
                    led[2] += t.left.size();
                    led[3] += Integer.bitCount(hurts(t.came));
                    return t.came.size();
                }
                case "rinse": {
                    mesh(a[0], false);
                    int[] in = lies(a[0]);
                    lying.remove(a[0]);
                    led[4]++;
                    led[5] += in[1];
                    return in[0];
                }
                case "led": {
                    need(a[0] >= 0 && a[0] <= 5, -1);
                    return led[a[0]];
                }
                case "image": {
                    imageLed = led.clone();
                    imageLying = copy(lying);
                    return led[0];
                }
                case "back": {
                    need(imageLed != null, -5);
                    led = imageLed.clone();
                    lying = copy(imageLying);
                    return led[0];
                }
                case "undo": {
                    need(!done.isEmpty(), -5);
                    int[] c = done.remove(done.size() - 1);
                    undone.add(c);
                    cell(c[0], c[1])[c[1] < 5 ? c[1] : 0] = c[2];
                    return done.size();
                }
                case "redo": {
                    need(!undone.isEmpty(), -5);
                    int[] c = undone.remove(undone.size() - 1);
                    done.add(c);
                    cell(c[0], c[1])[c[1] < 5 ? c[1] : 0] = c[3];
                    worked.clear();
                    return undone.size();
                }
                case "body": {
                    need(a[0] >= 0 && a[0] <= 7, -1);
                    need(bodies.size() < 50, -3);
                    Leaf made = leaf(a[0]);
                    made.m = this;
                    made.n = bodies.size();
                    bodies.add(made);
                    return made.n;
                }
                case "act": {
                    ran = new ArrayList<>();
                    if (a[0] < 0 || a[0] >= bodies.size() || a[1] < 0 || a[1] > 3) {
                        return 0;
                    }
                    Leaf b = bodies.get(a[0]);
                    return a[1] == 0 ? b.passes(a[2]) : a[1] == 1 ? b.stays(a[2]) : a[1] == 2 ? b.hurts(a[2]) : b.tells(a[2]);
                }
                case "trace": {
                    need(a[0] >= 0 && a[0] < Math.min(24, ran.size()), -1);
                    return ran.get(a[0]);
                }
                case "keep": {
                    shelf(a[0]);
                    need(a[1] >= -1 && a[1] < bodies.size(), -1);
                    shelves[a[0]] = a[1] == -1 ? null : bodies.get(a[1]);
                    return 1;
                }
                case "row": {
                    shelf(a[0]);
                    need(a[1] >= 0 && a[1] <= 4 && a[2] <= 60, -1);
                    need(a[2] >= 0, -14);
                    Object[] made = {new byte[a[2]], new short[a[2]], new int[a[2]], new long[a[2]], new boolean[a[2]]};
                    shelves[a[0]] = made[a[1]];
                    return 1;
                }
                case "put": {
                    Object row = row(a[0], a[1]);
                    if (row instanceof byte[]) {
                        ((byte[]) row)[a[1]] = (byte) l[2];
                    } else if (row instanceof short[]) {
                        ((short[]) row)[a[1]] = (short) l[2];
                    } else if (row instanceof int[]) {
                        ((int[]) row)[a[1]] = (int) l[2];
                    } else if (row instanceof long[]) {
                        ((long[]) row)[a[1]] = l[2];
                    } else {
                        ((boolean[]) row)[a[1]] = l[2] != 0;
                    }
                    return 1;
                }
                case "element": {
                    Object row = row(a[0], a[1]);
                    if (row instanceof boolean[]) {
                        return ((boolean[]) row)[a[1]] ? 1 : 0;
                    }
                    return java.lang.reflect.Array.getLong(row, a[1]);
                }
                case "shift": {
                    shelf(a[0]);
                    shelf(a[2]);
                    Object from = shelves[a[0]];
                    Object to = shelves[a[2]];
                    need(from != null && to != null, -11);
                    need(!(from instanceof Leaf) && from.getClass() == to.getClass(), -12);
                    try {
                        System.arraycopy(from, a[1], to, a[3], a[4]);
                    } catch (IndexOutOfBoundsException e) {
                        return -13;
                    }
                    return a[4];
                }
                case "taken": {
                    shelf(a[0]);
                    need(a[1] >= 0 && a[1] <= 7, -1);
                    need(shelves[a[0]] != null, -11);
                    need(KINDS[a[1]].isInstance(shelves[a[0]]), -12);
                    return Arrays.asList(KINDS).indexOf(shelves[a[0]].getClass());
                }
                case "count": {
                    int[] all = {words.size(), meshes.size(), people.size(), tape.length(), done.size(), bodies.size(), ran.size()};
                    need(a[0] >= 0 && a[0] < all.length, -1);
                    return all[a[0]];
                }
                default: throw new IllegalStateException(op);
            }
        }

        private static String key(List<Integer> s) {
            StringBuilder b = new StringBuilder();
            for (int w : s) {
                b.append((char) ('a' + w));
            }
            return b.toString();
        }

        private static Map<Integer, int[]> copy(Map<Integer, int[]> of) {
            Map<Integer, int[]> made = new HashMap<>();
            of.forEach((k, v) -> made.put(k, v.clone()));
            return made;
        }

        private int[] lies(int mesh) {
            return lying.computeIfAbsent(mesh, k -> new int[2]);
        }

        private void mesh(int mesh, boolean orNone) {
            need(mesh >= (orNone ? -1 : 0) && mesh < meshes.size(), -1);
        }

        private int fine(int mesh) {
            return mesh == -1 ? -1 : meshes.get(mesh)[0];
        }

        private void shelf(int shelf) {
            need(shelf >= 0 && shelf <= 5, -1);
        }

        private Object row(int shelf, int i) {
            shelf(shelf);
            need(shelves[shelf] != null, -11);
            need(!(shelves[shelf] instanceof Leaf), -12);
            need(i >= 0 && i < java.lang.reflect.Array.getLength(shelves[shelf]), -13);
            return shelves[shelf];
        }

        private void pair(int two) {
            need(two >= 0 && two / 10 <= 5 && two % 10 <= 5, -1);
            need(shelves[two / 10] != null && shelves[two % 10] != null, -11);
            need(shelves[two / 10] instanceof byte[] && shelves[two % 10] instanceof byte[], -12);
        }

        private List<Integer> saying(int shelf) {
            shelf(shelf);
            need(shelves[shelf] != null, -11);
            need(shelves[shelf] instanceof byte[], -12);
            List<Integer> s = new ArrayList<>();
            for (byte b : (byte[]) shelves[shelf]) {
                if (b < 0 || b >= words.size() || s.size() == 12) {
                    break;
                }
                s.add((int) b);
            }
            return s;
        }

        private int[] cell(int number, int what) {
            need(what >= 0 && what <= 7 && number >= 0, -1);
            if (what == 7) {
                need(number == 0, -1);
                return bends;
            }
            List<int[]> all = what < 5 ? words : what == 5 ? meshes : people;
            need(number < all.size(), -1);
            return all.get(number);
        }

        private int mend(int number, int what, int v) {
            int[] cell = cell(number, what);
            int most = what == 3 ? 2 : what == 4 ? 5 : what == 7 ? 20 : 9;
            need(v >= 0 && v <= most, -1);
            int at = what < 5 ? what : 0;
            int was = cell[at];
            if (was != v) {
                cell[at] = v;
                undone.clear();
                done.add(new int[] {number, what, was, v});
                if (done.size() > 40) {
                    done.remove(0);
                }
            }
            return was;
        }

        private int wordsFrom(int shelf, int i, int n) {
            shelf(shelf);
            need(n >= 1 && n <= 12, -1);
            if (shelves[shelf] == null) {
                return 0;
            }
            need(shelves[shelf] instanceof byte[], -12);
            byte[] row = (byte[]) shelves[shelf];
            int came = 0;
            for (long at = i; came < n && at >= 0 && at + 3 <= row.length && words.size() < 12; at += 3) {
                int[] w = {row[(int) at], row[(int) at + 1], row[(int) at + 2], 2, 0};
                if (w[0] < 0 || w[0] > 9 || w[1] < 0 || w[1] > 9 || w[2] < 0 || w[2] > 9) {
                    break;
                }
                words.add(w);
                came++;
            }
            return came;
        }

        private boolean passes(int word, int fine, int place, int left) {
            if (fine == -1) {
                return true;
            }
            int[] w = words.get(word);
            if (law == null) {
                return w[0] + w[1] <= bends[0] - fine;
            }
            return worked.computeIfAbsent(List.of(w[0], w[1], w[2], fine, place, left), k -> {
                for (String line : law.split(";")) {
                    int at = line.indexOf('?');
                    if (at < 0) {
                        return value(line, k) > 0;
                    }
                    if (value(line.substring(0, at), k) != 0) {
                        return value(line.substring(at + 1), k) > 0;
                    }
                }
                return false;
            });
        }

        private Strained strain(List<Integer> s, int fine, int lying) {
            Strained t = new Strained();
            int p = 0;
            for (int w : s) {
                (passes(w, fine, p++, lying + t.left.size()) ? t.came : t.left).add(w);
            }
            return t;
        }

        private int sum(List<Integer> s, int what) {
            return s.stream().mapToInt(w -> words.get(w)[what]).sum();
        }

        private int hurts(List<Integer> s) {
            int bits = 0;
            for (int one = 0; one < people.size(); one++) {
                int who = one;
                int net = s.stream().map(words::get).filter(w -> w[4] == who).mapToInt(w -> w[1] - w[2]).sum();
                if (net + people.get(one)[0] > 9) {
                    bits += 1 << one;
                }
            }
            return bits;
        }

        private int[] harms(List<Integer> s) {
            int[] harm = new int[6];
            for (int w : s) {
                harm[words.get(w)[4]] += words.get(w)[1];
            }
            return harm;
        }

        private int through(int shelf, int mesh, int what) {
            need(what >= 0 && what <= 5, -1);
            mesh(mesh, true);
            List<Integer> s = saying(shelf);
            Strained t = strain(s, fine(mesh), 0);
            StringBuilder sorts = new StringBuilder();
            for (int w : t.came) {
                sorts.append(words.get(w)[3]);
            }
            int[] answers = {t.came.size(), t.left.size(), sorts.toString().matches("012*") ? 1 : 0,
                hurts(t.came), hurts(s), sum(t.left, 1)};
            return answers[what];
        }

        private int several(int sm, int what) {
            need(what == 0 || what == 1, -1);
            pair(sm);
            List<Integer> s = saying(sm / 10);
            int harm = 0;
            for (byte b : (byte[]) shelves[sm % 10]) {
                if (b < 0 || b >= meshes.size()) {
                    break;
                }
                Strained t = strain(s, fine(b), 0);
                harm += sum(t.left, 1);
                s = t.came;
            }
            return what == 0 ? s.size() : harm;
        }

        private boolean trySay(List<Integer> found, List<Integer> told, int fine, int length) {
            Strained t = strain(found, fine, 0);
            if (t.came.size() > told.size() || !told.subList(0, t.came.size()).equals(t.came)
                || told.size() - t.came.size() > length - found.size()) {
                return false;
            }
            if (found.size() == length) {
                return t.came.equals(told);
            }
            for (int w = 0; w < words.size(); w++) {
                if (words.get(w)[3] == Math.min(2, found.size())) {
                    found.add(w);
                    if (trySay(found, told, fine, length)) {
                        return true;
                    }
                    found.remove(found.size() - 1);
                }
            }
            return false;
        }

        private List<List<Integer>> merged(int cl, int mesh) {
            mesh(mesh, true);
            pair(cl);
            List<Integer> came = saying(cl / 10);
            List<Integer> left = saying(cl % 10);
            List<List<Integer>> all = new ArrayList<>();
            int n = came.size() + left.size();
            for (int set = 0; n <= 12 && set < 1 << n; set++) {
                if (Integer.bitCount(set) != came.size()) {
                    continue;
                }
                List<Integer> one = new ArrayList<>();
                int c = 0;
                for (int at = 0; at < n; at++) {
                    one.add((set >> at & 1) != 0 ? came.get(c++) : left.get(at - c));
                }
                Strained t = strain(one, fine(mesh), 0);
                if (t.came.equals(came) && t.left.equals(left) && !all.contains(one)) {
                    all.add(one);
                }
            }
            return all;
        }

        private long tryAlone(List<Integer> came, int c, int l, int n, int fine) {
            long all = c == came.size() && l == n ? 1 : 0;
            for (int w = 0; w < words.size(); w++) {
                if (passes(w, fine, c + l, l)) {
                    all += c < came.size() && came.get(c) == w ? tryAlone(came, c + 1, l, n, fine) : 0;
                } else {
                    all += l < n ? tryAlone(came, c, l + 1, n, fine) : 0;
                }
            }
            return all;
        }

        private int between(int shelf, int mesh, int k) {
            need(k >= 0, -1);
            mesh(mesh, true);
            List<Integer> s = saying(shelf);
            need(k <= s.size(), -2);
            int bits = 0;
            for (int w = 0; w < words.size(); w++) {
                List<Integer> t = new ArrayList<>(s);
                t.add(k, w);
                int behind = strain(t.subList(0, k), fine(mesh), 0).left.size();
                boolean left = strain(t.subList(0, k + 1), fine(mesh), 0).left.size() == behind + 1;
                if (left && strain(t, fine(mesh), 0).came.equals(strain(s, fine(mesh), 0).came)) {
                    bits += 1 << w;
                }
            }
            return bits;
        }

        private int meant(int shelf, int mesh, int what) {
            need(what == 0 || what == 1, -1);
            mesh(mesh, true);
            Strained t = strain(saying(shelf), fine(mesh), 0);
            int[] harm = harms(t.left);
            if (what == 0) {
                int most = Arrays.stream(harm).max().getAsInt();
                for (int one = 0; one < 6; one++) {
                    if (most > 0 && harm[one] == most) {
                        return one;
                    }
                }
                return -2;
            }
            int bits = 0;
            for (int one = 0; one < 6; one++) {
                int who = one;
                if (harm[one] > 0 && t.came.stream().noneMatch(w -> words.get(w)[4] == who)) {
                    bits += 1 << one;
                }
            }
            return bits;
        }

        private boolean wins(int said, int fine, Map<Integer, Boolean> known) {
            Boolean k = known.get(said);
            if (k != null) {
                return k;
            }
            boolean won = false;
            for (int w = 0; w < Math.min(10, words.size()) && !won; w++) {
                won = (said >> w & 1) == 0 && passes(w, fine, Integer.bitCount(said), 0) && !wins(said | 1 << w, fine, known);
            }
            known.put(said, won);
            return won;
        }

        private int drawn(int seed, int nm, int mesh, int what) {
            mesh(mesh, false);
            need(what == 0 || what == 1, -1);
            need(nm >= 101 && nm / 100 <= 30 && nm % 100 >= 1 && nm % 100 <= 20, -1);
            if (words.isEmpty()) {
                return 0;
            }
            int z = seed;
            int all = 0;
            int hurt = 0;
            for (int e = 0; e < nm / 100; e++) {
                int left = 0;
                for (int k = 0; k < nm % 100; k++) {
                    List<Integer> s = new ArrayList<>();
                    for (int w = 0; w < 4; w++) {
                        z = (int) (z * 1103515245L + 12345L);
                        s.add((int) (((z & 0xffffffffL) / 1024) % words.size()));
                    }
                    Strained t = strain(s, fine(mesh), left);
                    left += t.left.size();
                    all += t.left.size();
                    hurt += hurts(t.came) != 0 ? 1 : 0;
                }
            }
            return what == 0 ? all : hurt;
        }

        // ---- the law as a text that is split, and its fault found sign by sign

        private static int top(String e, String signs, boolean binary) {
            int depth = 0;
            for (int at = e.length() - 1; at > 0; at--) {
                char c = e.charAt(at);
                depth += c == ')' ? 1 : c == '(' ? -1 : 0;
                char ahead = e.charAt(at - 1);
                boolean behindOperand = Character.isLetterOrDigit(ahead) || ahead == ')';
                if (depth == 0 && signs.indexOf(c) >= 0 && (!binary || behindOperand)) {
                    return at;
                }
            }
            return -1;
        }

        private static int value(String e, List<Integer> k) {
            for (String signs : new String[] {"|", "&", "<=>", "+-", "*/%"}) {
                int at = top(e, signs, true);
                if (at > 0) {
                    int a = value(e.substring(0, at), k);
                    int b = value(e.substring(at + 1), k);
                    switch (e.charAt(at)) {
                        case '|': return a != 0 | b != 0 ? 1 : 0;
                        case '&': return a != 0 & b != 0 ? 1 : 0;
                        case '<': return a < b ? 1 : 0;
                        case '=': return a == b ? 1 : 0;
                        case '>': return a > b ? 1 : 0;
                        case '+': return a + b;
                        case '-': return a - b;
                        case '*': return a * b;
                        case '/': return b == 0 ? 0 : a / b;
                        default: return b == 0 ? 0 : a % b;
                    }
                }
            }
            char c = e.charAt(0);
            if (c == '!') {
                return value(e.substring(1), k) == 0 ? 1 : 0;
            }
            if (c == '-') {
                return -value(e.substring(1), k);
            }
            if (c == '(') {
                return value(e.substring(1, e.length() - 1), k);
            }
            int name = "shwfpl".indexOf(c);
            return name >= 0 ? k.get(name) : Integer.parseInt(e);
        }

        /** -1: none. */
        private static int fault(String text) {
            List<int[]> frames = new ArrayList<>();
            frames.add(new int[2]);
            boolean need = true;
            boolean asked = false;
            int digits = 0;
            for (int at = 0; at < text.length(); at++) {
                char c = text.charAt(at);
                int[] frame = frames.get(frames.size() - 1);
                int open = frames.size() - 1;
                for (int[] f : frames) {
                    open += f[0];
                }
                if (need) {
                    if (c >= '0' && c <= '9' || "shwfpl".indexOf(c) >= 0) {
                        need = false;
                        digits = c <= '9' ? 1 : 4;
                        frame[0] = 0;
                    } else if ((c == '!' || c == '-') && open < 6) {
                        frame[0]++;
                    } else if (c == '(' && open < 6) {
                        frames.add(new int[2]);
                    } else {
                        return at;
                    }
                    continue;
                }
                if (c >= '0' && c <= '9') {
                    if (digits >= 4) {
                        return at;
                    }
                    digits++;
                } else if ("+-*/%".indexOf(c) >= 0) {
                    need = true;
                } else if ("<=>".indexOf(c) >= 0 && frame[1] == 0) {
                    frame[1] = 1;
                    need = true;
                } else if (c == '|' || c == '&') {
                    frame[1] = 0;
                    need = true;
                } else if (c == ')' && frames.size() > 1) {
                    frames.remove(frames.size() - 1);
                    frames.get(frames.size() - 1)[0] = 0;
                    digits = 4;
                } else if (c == '?' && frames.size() == 1 && !asked) {
                    asked = true;
                    frame[1] = 0;
                    need = true;
                } else if (c == ';' && frames.size() == 1) {
                    asked = false;
                    frame[1] = 0;
                    need = true;
                } else {
                    return at;
                }
            }
            return need || frames.size() > 1 ? text.length() : -1;
        }
    }
}
