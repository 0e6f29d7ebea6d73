/** For each promise ordinary inputs, the edges that the document names, and wrong inputs, worked out by hand. */
public final class PromisesTest {
    private static final int BAD = -1, NOT = -2, FULL = -3, STATE = -5;
    private static final long MIN = Long.MIN_VALUE;
    private static final int LEAST = Integer.MIN_VALUE, GREATEST = Integer.MAX_VALUE;
    private static int wrong = 0;
    private static int promise = 0;
    private static int asked = 0;
    private static final boolean[] TESTED = new boolean[45];

    private static void due(long got, long want) {
        asked++;
        TESTED[promise] = true;
        if (got != want) {
            wrong++;
            StackTraceElement at = new Throwable().getStackTrace()[1];
            System.out.println("promise " + promise + ", " + at.getMethodName() + ", line " + at.getLineNumber()
                + ": answered " + got + ", due is " + want);
        }
    }

    public static void main(String[] args) {
        newObject();
        word();
        words();
        meshAndPerson();
        mend();
        of();
        feed();
        lawFaults();
        lawWorth();
        lets();
        through();
        nth();
        several();
        say();
        finest();
        keeps();
        leastLost();
        most();
        said();
        saidAt();
        alone();
        howFine();
        between();
        meant();
        likely();
        game();
        drawn();
        speak();
        rinse();
        led();
        imageAndBack();
        undoAndRedo();
        bodyActTrace();
        keepAndTaken();
        rowPutElement();
        shift();
        count();
        for (int p = 1; p <= 44; p++) {
            if (!TESTED[p]) {
                wrong++;
                System.out.println("promise " + p + " is not tested");
            }
        }
        System.out.println(wrong == 0 ? "all " + asked + " answers are as due" : wrong + " answers are not as due");
        if (wrong != 0) {
            System.exit(1);
        }
    }

    // ---- helpers

    private static void lay(TalkStrainer x, int shelf, int... bytes) {
        x.row(shelf, 0, bytes.length);
        for (int i = 0; i < bytes.length; i++) {
            x.put(shelf, i, bytes[i]);
        }
    }

    private static int tell(TalkStrainer x, String text) {
        for (char c : text.toCharArray()) {
            x.feed(c);
        }
        return x.law();
    }

    private static void word(TalkStrainer x, int size, int harm, int sweet, int sort, int meant) {
        int w = x.word(size, harm);
        x.mend(w, 2, sweet);
        x.mend(w, 3, sort);
        x.mend(w, 4, meant);
    }

    /** Words of sizes 0 to n - 1 without harm, and meshes of fineness 0. */
    private static TalkStrainer sizes(int n, String law) {
        TalkStrainer x = new TalkStrainer();
        for (int i = 0; i < n; i++) {
            x.word(i, 0);
        }
        x.mesh(0);
        tell(x, law);
        return x;
    }

    // ---- words, meshes, people

    private static void newObject() {
        promise = 1;
        TalkStrainer x = new TalkStrainer();
        for (int what = 0; what <= 6; what++) {
            due(x.count(what), 0);
        }
        for (int what = 0; what <= 5; what++) {
            due(x.led(what), 0);
        }
        for (int shelf = 0; shelf <= 5; shelf++) {
            due(x.taken(shelf, 0), -11);
        }
        due(x.of(0, 7), 12);
        due(x.back(), STATE);
        due(x.law(), -100);
        TalkStrainer y = new TalkStrainer();
        y.word(1, 1);
        due(x.count(0), 0);
        due(TalkStrainer.BAD, -1);
        due(TalkStrainer.NOT, -2);
        due(TalkStrainer.FULL, -3);
        due(TalkStrainer.STATE, -5);
        due(TalkStrainer.VOID, -2000000000);
    }

    private static void word() {
        promise = 2;
        TalkStrainer x = new TalkStrainer();
        due(x.word(-1, 0), BAD);
        due(x.word(10, 0), BAD);
        due(x.word(0, -1), BAD);
        due(x.word(0, 10), BAD);
        due(x.word(LEAST, GREATEST), BAD);
        for (int n = 0; n < 12; n++) {
            due(x.word(n % 10, 9 - n % 10), n);
        }
        due(x.word(0, 0), FULL);
        due(x.word(10, 0), BAD);
        due(x.count(0), 12);
        due(x.of(3, 0), 3);
        due(x.of(3, 1), 6);
        due(x.of(11, 2), 0);
        due(x.of(11, 3), 2);
        due(x.of(11, 4), 0);
        due(x.count(4), 0);
    }

    private static void words() {
        promise = 3;
        TalkStrainer x = new TalkStrainer();
        lay(x, 0, 1, 2, 3, 4, 5, 6, 7, 8);
        due(x.words(0, 0, 12), 2);
        due(x.of(0, 0), 1);
        due(x.of(0, 1), 2);
        due(x.of(0, 2), 3);
        due(x.of(0, 3), 2);
        due(x.of(0, 4), 0);
        due(x.of(1, 2), 6);
        due(x.words(0, 5, 12), 1);
        due(x.of(2, 0), 6);
        due(x.words(0, 6, 1), 0);
        due(x.words(0, 8, 1), 0);
        due(x.words(0, GREATEST, 1), 0);
        due(x.words(0, -1, 1), 0);
        due(x.words(0, LEAST, 12), 0);
        due(x.words(5, 0, 1), 0);
        due(x.words(0, 0, 0), BAD);
        due(x.words(0, 0, 13), BAD);
        due(x.words(6, 0, 1), BAD);
        due(x.words(-1, 0, 1), BAD);
        x.row(1, 2, 9);
        due(x.words(1, 0, 1), -12);
        due(x.words(1, -1, 1), -12);
        due(x.words(1, 0, 13), BAD);
        x.body(0);
        x.keep(2, 0);
        due(x.words(2, 0, 1), -12);
        lay(x, 3, 1, 1, 1, 2, -1, 2, 3, 3, 3);
        due(x.words(3, 0, 3), 1);
        lay(x, 3, 1, 1, 1, 2, 2, 10, 3, 3, 3);
        due(x.words(3, 0, 3), 1);
        due(x.count(0), 5);
        x.row(4, 0, 60);
        due(x.words(4, 0, 2), 2);
        due(x.words(4, 0, 12), 5);
        due(x.words(4, 0, 12), 0);
        due(x.count(0), 12);
        due(x.words(1, 0, 1), -12);
    }

    private static void meshAndPerson() {
        promise = 4;
        TalkStrainer x = new TalkStrainer();
        due(x.mesh(-1), BAD);
        due(x.mesh(10), BAD);
        for (int n = 0; n < 5; n++) {
            due(x.mesh(9 - n), n);
        }
        due(x.mesh(0), FULL);
        due(x.mesh(10), BAD);
        due(x.of(4, 5), 5);
        due(x.count(1), 5);
        promise = 5;
        due(x.person(-1), BAD);
        due(x.person(10), BAD);
        for (int n = 0; n < 6; n++) {
            due(x.person(n), n);
        }
        due(x.person(0), FULL);
        due(x.person(-1), BAD);
        due(x.of(5, 6), 5);
        due(x.count(2), 6);
    }

    private static void mend() {
        promise = 6;
        TalkStrainer x = new TalkStrainer();
        x.word(1, 2);
        x.mesh(3);
        x.person(4);
        int[] was = {1, 2, 0, 2, 0, 3, 4, 12};
        int[] most = {9, 9, 9, 2, 5, 9, 9, 20};
        for (int what = 0; what <= 7; what++) {
            due(x.mend(0, what, -1), BAD);
            due(x.mend(0, what, most[what] + 1), BAD);
            due(x.mend(1, what, 0), BAD);
            due(x.mend(-1, what, 0), BAD);
            due(x.of(0, what), was[what]);
            due(x.mend(0, what, most[what]), was[what]);
            due(x.of(0, what), most[what]);
            due(x.mend(0, what, 0), most[what]);
            due(x.mend(0, what, 0), 0);
        }
        due(x.mend(0, -1, 0), BAD);
        due(x.mend(0, 8, 0), BAD);
        due(x.mend(0, 9, 0), BAD);
        due(x.mend(LEAST, GREATEST, 0), BAD);
        due(new TalkStrainer().mend(0, 7, 0), 12);
    }

    private static void of() {
        promise = 7;
        TalkStrainer x = new TalkStrainer();
        for (int what = 0; what <= 9; what++) {
            due(x.of(0, what), what == 7 ? 12 : BAD);
        }
        x.word(9, 9);
        x.word(9, 4);
        x.mesh(5);
        due(x.of(1, 1), 4);
        due(x.of(2, 1), BAD);
        due(x.of(1, 7), BAD);
        due(x.of(1, 5), BAD);
        due(x.of(0, 10), BAD);
        due(x.of(0, -1), BAD);
        lay(x, 0, 0, 1, 1);
        due(x.speak(0, 0), 0);
        due(x.of(0, 8), 3);
        due(x.of(0, 9), 17);
        due(x.of(1, 8), BAD);
        due(x.of(-1, 9), BAD);
        // HARM of what lies in the mesh stays as it was when it was said
        x.mend(0, 1, 0);
        due(x.of(0, 9), 17);
    }

    private static void feed() {
        promise = 8;
        TalkStrainer x = new TalkStrainer();
        due(x.feed(-1), BAD);
        due(x.feed(256), BAD);
        due(x.feed(0), 1);
        due(x.feed(255), 2);
        due(x.law(), -100);
        for (int n = 1; n <= 120; n++) {
            due(x.feed(n % 2 == 1 ? '1' : '+'), n);
        }
        due(x.feed('1'), FULL);
        due(x.feed(256), BAD);
        due(x.count(3), 120);
        due(x.law(), -220);
        due(x.count(3), 0);
    }

    private static void lawFaults() {
        promise = 9;
        String[] good = {"1", "9999", "0000", "s", "h;w;f;p;l", "1?2", "1?2;3", "s<3", "(s<3)<h", "!s", "-s", "--1", "1--1", "s+h-w*f/p%l",
            "s|h&w", "((((((1))))))", "!!!!!!1", "-(-(-(1)))", "!(1)+!(1)", "------1+------1", "(1|2)&3", "1<2|3>4", "1<2&3=4", "1<(2<3)",
            "(((((1)))))+((((((1))))))"};
        for (String text : good) {
            due(tell(new TalkStrainer(), text), 1);
        }
        Object[][] faulty = {{"", 0}, {"x", 0}, {"1x", 1}, {"12345", 4}, {"1;", 2}, {";1", 0}, {"1?", 2}, {"1?2?3", 3}, {"1<2<3", 3},
            {"1=2>3", 3}, {"(1", 2}, {"(1))", 3}, {"1)", 1}, {"()", 1}, {"(1?2)", 2}, {"(1;2)", 2}, {"s h", 1}, {"sh", 1}, {"s1", 1}, {"1s", 1},
            {"1+", 2}, {"+1", 0}, {"*", 0}, {"1**2", 2}, {"1!2", 1}, {"!", 1}, {"-", 1}, {"(((((((1)))))))", 6}, {"!!!!!!!1", 6}, {"-------1", 6},
            {"(-(-(-(1", 6}, {"1||2", 2}, {"1&&2", 2}, {"1<=2", 2}, {"S", 0}, {"1(2)", 1}, {"(1)(2)", 3}, {"1?2;3?", 6}, {"?1", 0}, {"1;;2", 2},
            {"(1)2", 3}, {"s\u00ff", 1}};
        for (Object[] one : faulty) {
            due(tell(new TalkStrainer(), (String) one[0]), -100 - (Integer) one[1]);
        }
        // a fault leaves the law that was told before, and empties the tape
        TalkStrainer x = sizes(3, "s-1");
        due(tell(x, "1+"), -102);
        due(x.count(3), 0);
        due(x.lets(10, 0), 0);
        due(x.lets(20, 0), 1);
        due(tell(x, "s<1"), 1);
        due(x.count(3), 0);
        due(x.lets(0, 0), 1);
        due(x.lets(20, 0), 0);
        due(x.law(), -100);
        due(x.lets(0, 0), 1);
    }

    /** The word has SIZE 3, HARM 5, SWEET 2, the mesh FINE 7, the place is 4, and 6 are left. */
    private static void lawWorth() {
        promise = 10;
        Object[][] laws = {{"s=3", 1}, {"h=5", 1}, {"w=2", 1}, {"f=7", 1}, {"p=4", 1}, {"l=6", 1}, {"0", 0}, {"-1", 0}, {"1", 1}, {"2", 1}, {"7-4-3", 0},
            {"7-4+3=6", 1}, {"2+3*4=14", 1}, {"8/2/2=2", 1}, {"8/2*4=16", 1}, {"(2+3)*4=20", 1}, {"-7/2=-3", 1}, {"-7%3=-1", 1}, {"7%-3=1", 1},
            {"5/0=0", 1}, {"5%0=0", 1}, {"1|0&0", 1}, {"(1|0)&0", 0}, {"7|0=1", 1}, {"(7|0)=1", 1}, {"(7&9)=1", 1}, {"!7=0", 1}, {"!0=1", 1},
            {"!!9=1", 1}, {"!s<1", 1}, {"-s*-s=9", 1}, {"0?1", 0}, {"0?1;0?2", 0}, {"0?1;1", 1}, {"1?0;1", 0}, {"0;1", 0}, {"-5?1", 1}, {"s>3?0;h>4?1;0", 1},
            {"9999*9999*9999<0", 1}, {"1024*1024*2048<0", 1}, {"1024*1024*2048/-1<0", 1}, {"1024*1024*2048%-1=0", 1}, {"-1024*1024*2048<0", 1},
            {"1<2|9", 1}, {"1>2|0", 0}, {"0|0|3", 1}, {"3&2&1", 1}, {"3&0&1", 0}, {"1+1=2&2*2=4", 1}, {"2>1+1", 0}, {"1-1-1+2", 1}};
        for (Object[] one : laws) {
            TalkStrainer x = new TalkStrainer();
            x.word(3, 5);
            x.mend(0, 2, 2);
            x.mesh(7);
            due(tell(x, (String) one[0]), 1);
            due(x.lets(0, 406), (Integer) one[1]);
        }
    }

    private static void lets() {
        promise = 10;
        TalkStrainer x = new TalkStrainer();
        due(x.lets(0, 0), BAD);
        for (int n = 0; n < 12; n++) {
            x.word(n % 10, 0);
        }
        x.mend(11, 1, 9);
        x.mesh(2);
        x.mesh(3);
        // without a text: SIZE and HARM together no more than 12 less FINE
        due(x.lets(110, 0), 1);
        due(x.lets(111, 0), 0);
        due(x.lets(110, 9999), 1);
        x.mend(0, 7, 11);
        due(x.lets(110, 0), 0);
        x.mend(0, 7, 0);
        due(x.lets(0, 0), 0);
        due(x.lets(120, 0), BAD);
        due(x.lets(112, 0), BAD);
        due(x.lets(9, 0), BAD);
        due(x.lets(-1, 0), BAD);
        due(x.lets(-10, 0), BAD);
        due(x.lets(0, -1), BAD);
        due(x.lets(0, 10000), BAD);
        due(x.lets(GREATEST, 0), BAD);
        due(x.lets(LEAST, LEAST), BAD);
        tell(x, "p=99&l=98");
        due(x.lets(0, 9998), 1);
        due(x.lets(0, 9899), 0);
    }

    // ---- sayings in thought

    private static void refusals(TalkStrainer x, int shelfOfNothing, int shelfOfOther, int promiseNumber) {
        promise = promiseNumber;
        int[] shelves = {-1, 6, shelfOfNothing, shelfOfOther};
        int[] wants = {BAD, BAD, -11, -12};
        for (int n = 0; n < 4; n++) {
            int shelf = shelves[n];
            int want = wants[n];
            switch (promiseNumber) {
                case 11: due(x.through(shelf, 0, 0), want); due(x.through(shelf, -1, 6), BAD); break;
                case 12: due(x.nth(shelf, 0, 0, 0), want); due(x.nth(shelf, -1, 0, 2), BAD); break;
                case 14: due(x.say(shelf, 0, -1), want); due(x.say(shelf, 0, -2), BAD); break;
                case 15: due(x.finest(shelf), want); break;
                case 17: due(x.leastLost(shelf), want); break;
                case 21: due(x.alone(shelf, 0, 0), MIN); break;
                case 23: due(x.between(shelf, 0, 0), want); due(x.between(shelf, 0, -1), BAD); break;
                case 24: due(x.meant(shelf, 0, 0), want); due(x.meant(shelf, 0, 2), BAD); break;
                case 25: due(x.likely(shelf, 0, 0, 0), MIN); break;
                case 28: due(x.speak(shelf, 0), want); due(x.speak(shelf, -1), BAD); break;
                default: due(0, 1);
            }
        }
    }

    /** Shelf 4 holds nothing, shelf 5 a row of booleans; one mesh. */
    private static TalkStrainer refusing() {
        TalkStrainer x = new TalkStrainer();
        x.mesh(0);
        x.row(5, 4, 3);
        return x;
    }

    private static void pairRefusals(int promiseNumber) {
        promise = promiseNumber;
        TalkStrainer x = refusing();
        x.row(0, 0, 2);
        x.body(0);
        x.keep(3, 0);
        int[] twos = {-1, -10, 6, 9, 60, 70, 1000, GREATEST, LEAST, 4, 40, 44, 45, 54, 34, 5, 50, 55, 3, 30};
        int[] wants = {BAD, BAD, BAD, BAD, BAD, BAD, BAD, BAD, BAD, -11, -11, -11, -11, -11, -11, -12, -12, -12, -12, -12};
        for (int n = 0; n < twos.length; n++) {
            switch (promiseNumber) {
                case 13: due(x.several(twos[n], 0), wants[n]); due(x.several(twos[n], 2), BAD); break;
                case 19: due(x.said(twos[n], 0), MIN); break;
                case 20: due(x.saidAt(twos[n], 0, 0), wants[n]); due(x.saidAt(twos[n], 1, 0), BAD); break;
                default: due(x.howFine(twos[n], 1), wants[n]); due(x.howFine(twos[n], -1), BAD);
            }
        }
    }

    private static void through() {
        refusals(refusing(), 4, 5, 11);
        TalkStrainer x = new TalkStrainer();
        word(x, 1, 1, 0, 0, 0);
        word(x, 2, 5, 1, 1, 1);
        word(x, 9, 9, 0, 2, 1);
        word(x, 0, 0, 3, 2, 1);
        x.mesh(0);
        x.mesh(9);
        x.person(9);
        x.person(5);
        lay(x, 0, 0, 1, 2, 3);
        due(x.through(0, 0, 0), 3);
        due(x.through(0, 0, 1), 1);
        due(x.through(0, 0, 2), 1);
        due(x.through(0, -1, 2), 1);
        due(x.through(0, 1, 2), 0);
        due(x.through(0, 0, 3), 1);
        due(x.through(0, 0, 4), 3);
        due(x.through(0, 0, 5), 9);
        due(x.through(0, -1, 3), 3);
        due(x.through(0, -1, 5), 0);
        // net HARM of one is 5 less 1 and 9 less 3: 10; hurt, if that is more than 9 less THIN
        x.mend(1, 6, 0);
        due(x.through(0, -1, 3), 3);
        x.mend(2, 1, 8);
        due(x.through(0, -1, 3), 1);
        due(x.through(0, 2, 0), BAD);
        due(x.through(0, -2, 0), BAD);
        due(x.through(0, 0, -1), BAD);
        due(x.through(0, 0, 6), BAD);
        // SENSE: two words at least, of sorts 0, 1 and then 2
        lay(x, 1, 0, 1);
        due(x.through(1, -1, 2), 1);
        lay(x, 1, 0);
        due(x.through(1, -1, 2), 0);
        lay(x, 1, 0, 1, 1);
        due(x.through(1, -1, 2), 0);
        lay(x, 1, 1, 0, 2);
        due(x.through(1, -1, 2), 0);
        lay(x, 1, 0, 1, 2, 3, 2);
        due(x.through(1, -1, 2), 1);
        // a SAYING ends with what is no WORD, and has 12 at most
        lay(x, 1, 0, 4, 0);
        due(x.through(1, -1, 0), 1);
        lay(x, 1, 0, 1, -1, 0);
        due(x.through(1, -1, 0), 2);
        x.row(1, 0, 60);
        due(x.through(1, -1, 0), 12);
        x.word(0, 0);
        lay(x, 1, 0, 4, 0);
        due(x.through(1, -1, 0), 3);
        // places and what is left count; the mesh is empty in thought, whatever lies in it in deed
        TalkStrainer y = sizes(3, "p=l");
        lay(y, 0, 0, 1, 2, 0, 1);
        due(y.through(0, 0, 0), 1);
        due(y.through(0, 0, 1), 4);
        y.speak(0, 0);
        due(y.through(0, 0, 1), 4);
        tell(y, "l<1");
        due(y.through(0, 0, 0), 5);
        due(y.lets(0, 4), 0);
    }

    private static void nth() {
        refusals(refusing(), 4, 5, 12);
        TalkStrainer x = sizes(4, "s>1");
        lay(x, 0, 0, 2, 1, 3, 3);
        int[] come = {2, 3, 3, NOT, NOT};
        int[] left = {0, 1, NOT, NOT, NOT};
        for (int k = 0; k < 5; k++) {
            due(x.nth(0, 0, k, 0), come[k]);
            due(x.nth(0, 0, k, 1), left[k]);
        }
        due(x.nth(0, -1, 4, 0), 3);
        due(x.nth(0, -1, 5, 0), NOT);
        due(x.nth(0, -1, 0, 1), NOT);
        due(x.nth(0, 0, GREATEST, 0), NOT);
        due(x.nth(0, 0, -1, 0), BAD);
        due(x.nth(0, 0, 0, 2), BAD);
        due(x.nth(0, 0, 0, -1), BAD);
        due(x.nth(0, 1, 0, 0), BAD);
        due(x.nth(0, -2, 0, 0), BAD);
    }

    private static void several() {
        pairRefusals(13);
        TalkStrainer x = sizes(4, "p<f");
        x.mend(2, 1, 4);
        x.mend(3, 1, 7);
        x.mesh(2);
        x.mesh(3);
        lay(x, 0, 0, 1, 2, 3);
        lay(x, 1, 2, 1);
        due(x.several(1, 0), 2);
        due(x.several(1, 1), 11);
        lay(x, 1, 2, 3, 1);
        due(x.several(1, 0), 3);
        due(x.several(1, 1), 7);
        lay(x, 1);
        due(x.several(1, 0), 4);
        due(x.several(1, 1), 0);
        lay(x, 1, 2, 0);
        due(x.several(1, 0), 0);
        due(x.several(10, 0), 0);
        due(x.several(1, 2), BAD);
        due(x.several(1, -1), BAD);
        // places anew, and each mesh empty as the saying comes to it
        tell(x, "p>0");
        x.row(1, 0, 60);
        due(x.several(1, 0), 0);
        due(x.several(1, 1), 11);
        lay(x, 1, 0, 0);
        due(x.several(1, 0), 2);
        tell(x, "l>0");
        due(x.several(1, 0), 2);
        // more meshes than words in a saying
        tell(x, "p>0|l>0");
        x.row(0, 0, 12);
        x.row(1, 0, 11);
        due(x.several(1, 0), 1);
        x.row(1, 0, 13);
        due(x.several(1, 0), 0);
    }

    private static void say() {
        refusals(refusing(), 4, 5, 14);
        TalkStrainer x = new TalkStrainer();
        word(x, 0, 0, 0, 2, 0);
        word(x, 1, 0, 0, 1, 0);
        word(x, 2, 0, 0, 0, 0);
        word(x, 3, 0, 0, 0, 0);
        x.mesh(0);
        // all passes: what is told must make sense itself
        lay(x, 0, 2, 1, 0);
        due(x.say(0, -1, -1), 3);
        due(x.say(0, -1, 0), 2);
        due(x.say(0, -1, 2), 0);
        due(x.say(0, -1, 3), NOT);
        due(x.say(0, -1, -2), BAD);
        due(x.say(0, 1, -1), BAD);
        lay(x, 0, 1, 2);
        due(x.say(0, -1, -1), NOT);
        due(x.say(0, -1, 0), NOT);
        // only the third word on comes: of the names 2 and 3 the first by numbers
        tell(x, "p>1");
        lay(x, 0, 0);
        due(x.say(0, 0, -1), 3);
        due(x.say(0, 0, 0), 2);
        due(x.say(0, 0, 1), 1);
        due(x.say(0, 0, 2), 0);
        // nothing is to come: two words are left
        lay(x, 1);
        due(x.say(1, 0, -1), 2);
        due(x.say(1, 0, 2), NOT);
        // ten words at most
        tell(x, "p=9");
        due(x.say(0, 0, -1), 10);
        due(x.say(0, 0, 9), 0);
        tell(x, "p=10");
        due(x.say(0, 0, -1), NOT);
        tell(x, "1");
        lay(x, 2, 2, 1, 0, 0, 0, 0, 0, 0, 0, 0);
        due(x.say(2, 0, -1), 10);
        lay(x, 2, 2, 1, 0, 0, 0, 0, 0, 0, 0, 0, 0);
        due(x.say(2, 0, -1), NOT);
        due(x.say(2, -1, -1), NOT);
        // a word may come again, and what is left counts
        tell(x, "l>3&s=0");
        due(x.say(0, 0, -1), 5);
        tell(x, "l>1");
        due(x.say(0, 0, -1), 3);
        tell(x, "s=2|s=0");
        lay(x, 0, 2, 0, 0);
        due(x.say(0, 0, -1), 4);
        due(x.say(0, 0, 1), 1);
    }

    private static void finest() {
        refusals(refusing(), 4, 5, 15);
        TalkStrainer x = new TalkStrainer();
        x.word(3, 4);
        x.word(5, 0);
        lay(x, 0, 0, 1);
        due(x.finest(0), 5);
        lay(x, 0, 1);
        due(x.finest(0), 7);
        lay(x, 0);
        due(x.finest(0), 9);
        x.mend(0, 7, 4);
        lay(x, 0, 1);
        due(x.finest(0), NOT);
        tell(x, "f%4=1");
        due(x.finest(0), 9);
        tell(x, "f-p*2=0");
        due(x.finest(0), 0);
        lay(x, 0, 1, 1);
        due(x.finest(0), NOT);
    }

    private static void keeps() {
        promise = 16;
        TalkStrainer x = new TalkStrainer();
        due(x.keeps(0), 0);
        due(x.keeps(4095), 0);
        due(x.keeps(-1), BAD);
        due(x.keeps(4096), BAD);
        x.mesh(9);
        x.mesh(5);
        x.mesh(5);
        due(x.keeps(4095), 7);
        x.word(3, 0);
        x.word(7, 0);
        x.word(9, 9);
        due(x.keeps(6), 1);
        due(x.keeps(4), 6);
        due(x.keeps(4 + 8 + 2048), 6);
        due(x.keeps(0), 0);
        due(x.keeps(1), 0);
        tell(x, "p=0&l=0&s<f");
        due(x.keeps(4), 1);
        due(x.keeps(6), 6);
    }

    private static void leastLost() {
        refusals(refusing(), 4, 5, 17);
        TalkStrainer x = new TalkStrainer();
        word(x, 1, 0, 5, 2, 1);
        word(x, 2, 8, 2, 2, 0);
        word(x, 3, 0, 4, 2, 1);
        lay(x, 0, 0, 1, 2);
        due(x.leastLost(0), NOT);
        tell(x, "s-f");
        x.mesh(3);
        x.mesh(2);
        x.mesh(1);
        x.mesh(2);
        x.mesh(0);
        due(x.leastLost(0), 4);
        x.person(4);
        // by fineness 1 the word of net harm 6 still comes, and 6 is more than 5
        due(x.leastLost(0), 1);
        x.mend(0, 6, 3);
        due(x.leastLost(0), 4);
        x.mend(1, 2, 0);
        due(x.leastLost(0), 1);
        tell(x, "1");
        due(x.leastLost(0), NOT);
    }

    private static void most() {
        promise = 18;
        TalkStrainer x = new TalkStrainer();
        due(x.most(-1), BAD);
        due(x.most(2), BAD);
        due(x.most(0), 0);
        due(x.most(1), 0);
        word(x, 0, 5, 0, 2, 0);
        word(x, 0, 5, 0, 2, 0);
        word(x, 0, 4, 0, 2, 0);
        word(x, 0, 4, 0, 2, 0);
        word(x, 0, 9, 0, 2, 1);
        due(x.most(0), 5);
        due(x.most(1), 31);
        x.person(0);
        due(x.most(0), 3);
        due(x.most(1), 16 + 5);
        x.person(9);
        due(x.most(0), 2);
        due(x.most(1), 5);
        word(x, 0, 0, 9, 2, 1);
        due(x.most(0), 4);
        due(x.most(1), 5 + 48);
        x.mend(0, 6, 9);
        due(x.most(0), 2);
        due(x.most(1), 48);
        for (int n = 6; n < 12; n++) {
            word(x, 0, 0, 0, 2, 0);
        }
        due(x.most(0), 8);
        due(x.most(1), 4095 - 15);
    }

    // ---- what was said

    private static void said() {
        pairRefusals(19);
        TalkStrainer x = sizes(4, "s>1");
        lay(x, 0, 2, 3);
        lay(x, 1, 0, 1);
        due(x.said(1, 0), 6);
        due(x.said(10, 0), 0);
        due(x.said(1, -1), 0);
        due(x.said(1, 1), MIN);
        due(x.said(1, -2), MIN);
        lay(x, 2);
        due(x.said(2, -1), 1);
        due(x.said(2, 0), 1);
        due(x.said(22, 0), 1);
        due(x.said(21, 0), 1);
        due(x.said(12, 0), 0);
        // the same word comes and is left by its place: just one saying is such
        tell(x, "p%2");
        lay(x, 0, 1, 1);
        lay(x, 1, 1, 1);
        due(x.said(1, 0), 1);
        tell(x, "s>1");
        lay(x, 0, 2, 3, 2, 3, 2, 3);
        lay(x, 1, 0, 1, 0, 1, 0, 1);
        due(x.said(1, 0), 924);
        lay(x, 1, 0, 1, 0, 1, 0, 1, 0);
        due(x.said(1, 0), 0);
        x.row(1, 0, 12);
        x.row(0, 0, 0);
        due(x.said(1, 0), 1);
    }

    private static void saidAt() {
        pairRefusals(20);
        TalkStrainer x = sizes(4, "s>1");
        lay(x, 0, 2, 3);
        lay(x, 1, 1, 0);
        int[] first = {1, 0, 2, 3, NOT};
        for (int k = 0; k < 5; k++) {
            due(x.saidAt(1, 0, k), first[k]);
        }
        due(x.saidAt(1, 0, -1), BAD);
        due(x.saidAt(1, 0, GREATEST), NOT);
        due(x.saidAt(1, 1, 0), BAD);
        due(x.saidAt(1, -2, 0), BAD);
        due(x.saidAt(1, -1, 0), NOT);
        due(x.saidAt(10, 0, 0), NOT);
        // the least first word is of no use, if nothing can go on behind it
        tell(x, "s=2|s=3&l<1");
        int[] second = {2, 3, 1, 0, NOT};
        for (int k = 0; k < 5; k++) {
            due(x.saidAt(1, 0, k), second[k]);
        }
        due(x.said(1, 0), 1);
        lay(x, 1);
        due(x.saidAt(1, -1, 1), 3);
    }

    private static void alone() {
        refusals(refusing(), 4, 5, 21);
        TalkStrainer x = sizes(4, "s>1");
        lay(x, 0, 2, 3);
        long[] ways = {1, 3 * 2, 6 * 4, 10 * 8, 15 * 16};
        for (int n = 0; n <= 4; n++) {
            due(x.alone(0, 0, n), ways[n]);
            due(x.alone(0, -1, n), n == 0 ? 1 : 0);
        }
        due(x.alone(0, 0, -1), MIN);
        due(x.alone(0, 0, 5), MIN);
        due(x.alone(0, 1, 0), MIN);
        due(x.alone(0, -2, 0), MIN);
        lay(x, 1, 0);
        due(x.alone(1, 0, 0), 0);
        due(x.alone(1, 0, 1), 0);
        lay(x, 1);
        due(x.alone(1, 0, 4), 16);
        lay(x, 1, 2, 2, 2, 2, 2, 2, 2, 2);
        due(x.alone(1, 0, 4), 495 * 16);
        lay(x, 1, 2, 2, 2, 2, 2, 2, 2, 2, 2);
        due(x.alone(1, 0, 3), 220 * 8);
        due(x.alone(1, 0, 4), 0);
        // a word that comes at one place and is left at another
        tell(x, "p%2");
        lay(x, 1, 0);
        due(x.alone(1, 0, 1), 4);
        due(x.alone(1, 0, 2), 16);
        due(x.alone(1, 0, 0), 0);
    }

    private static void howFine() {
        pairRefusals(22);
        TalkStrainer x = new TalkStrainer();
        x.word(2, 0);
        x.word(5, 0);
        lay(x, 0, 0, 1, 0);
        lay(x, 1, 0, 0);
        due(x.howFine(1, 0), 2);
        due(x.howFine(1, 1), 8);
        due(x.howFine(0, 0), 8);
        due(x.howFine(0, 1), 0);
        due(x.howFine(10, 0), 0);
        due(x.howFine(10, 1), NOT);
        due(x.howFine(1, 2), BAD);
        due(x.howFine(1, -1), BAD);
        lay(x, 1);
        due(x.howFine(1, 0), 0);
        x.mend(0, 7, 9);
        due(x.howFine(1, 0), 2);
        due(x.howFine(1, 1), 8);
    }

    private static void between() {
        refusals(refusing(), 4, 5, 23);
        TalkStrainer x = sizes(4, "s>1");
        lay(x, 0, 2, 0, 3);
        for (int k = 0; k <= 3; k++) {
            due(x.between(0, 0, k), 3);
            due(x.between(0, -1, k), 0);
        }
        due(x.between(0, 0, 4), NOT);
        due(x.between(0, 0, GREATEST), NOT);
        due(x.between(0, 0, -1), BAD);
        due(x.between(0, 1, 0), BAD);
        due(x.between(0, -2, 0), BAD);
        // one more that is left keeps back what came ahead of it
        tell(x, "s>1&l<2");
        due(x.between(0, 0, 0), 0);
        due(x.between(0, 0, 1), 0);
        due(x.between(0, 0, 3), 3);
        lay(x, 0, 2, 0, 0, 0, 3);
        due(x.between(0, 0, 1), 3);
        due(x.between(0, 0, 4), 15);
        // what comes is told by its words: another 2 comes instead of the first, and nothing is changed
        tell(x, "p=1");
        lay(x, 0, 2, 2);
        due(x.between(0, 0, 0), 15);
        due(x.between(0, 0, 1), 0);
        due(x.between(0, 0, 2), 15);
        // behind twelve words, too
        tell(x, "s>1");
        x.row(0, 0, 12);
        due(x.between(0, 0, 12), 3);
        due(x.between(0, 0, 0), 3);
        due(x.between(0, 0, 13), NOT);
        tell(x, "p=12");
        due(x.between(0, 0, 12), 0);
        due(x.between(0, 0, 0), 0);
    }

    private static void meant() {
        refusals(refusing(), 4, 5, 24);
        TalkStrainer x = new TalkStrainer();
        word(x, 9, 3, 0, 2, 4);
        word(x, 9, 6, 0, 2, 2);
        word(x, 0, 3, 0, 2, 4);
        word(x, 9, 0, 9, 2, 5);
        word(x, 0, 0, 0, 2, 2);
        x.mesh(9);
        lay(x, 0, 0, 1);
        due(x.meant(0, 0, 0), 2);
        due(x.meant(0, 0, 1), 4 + 16);
        lay(x, 0, 0, 0, 1);
        due(x.meant(0, 0, 0), 2);
        lay(x, 0, 0, 0, 0, 1);
        due(x.meant(0, 0, 0), 4);
        // something that comes of 4, though it is no harm, and something of 2
        lay(x, 0, 0, 1, 2);
        due(x.meant(0, 0, 1), 4);
        lay(x, 0, 0, 1, 4);
        due(x.meant(0, 0, 1), 16);
        lay(x, 0, 3, 2);
        due(x.meant(0, 0, 0), NOT);
        due(x.meant(0, 0, 1), 0);
        due(x.meant(0, -1, 0), NOT);
        due(x.meant(0, 1, 0), BAD);
        due(x.meant(0, -2, 0), BAD);
        due(x.meant(0, 0, -1), BAD);
        due(x.meant(0, 0, 2), BAD);
    }

    private static void likely() {
        refusals(refusing(), 4, 5, 25);
        TalkStrainer x = new TalkStrainer();
        word(x, 9, 4, 0, 2, 4);
        word(x, 9, 6, 0, 2, 2);
        word(x, 0, 3, 0, 2, 4);
        x.mesh(9);
        lay(x, 0, 0, 1, 2);
        due(x.likely(0, 0, 4, 0), 2);
        due(x.likely(0, 0, 4, 1), 5);
        due(x.likely(0, 0, 2, 0), 3);
        due(x.likely(0, 0, 2, 1), 5);
        due(x.likely(0, 0, 0, 0), 0);
        due(x.likely(0, 0, 0, 1), 1);
        due(x.likely(0, -1, 4, 0), 0);
        due(x.likely(0, -1, 4, 1), 1);
        lay(x, 0, 0, 0, 2);
        due(x.likely(0, 0, 4, 0), 1);
        due(x.likely(0, 0, 4, 1), 1);
        due(x.likely(0, 0, 6, 0), MIN);
        due(x.likely(0, 0, -1, 0), MIN);
        due(x.likely(0, 0, 0, 2), MIN);
        due(x.likely(0, 0, 0, -1), MIN);
        due(x.likely(0, 1, 0, 0), MIN);
        due(x.likely(0, -2, 0, 0), MIN);
    }

    private static void game() {
        promise = 26;
        TalkStrainer x = new TalkStrainer();
        due(x.game(0, 0), BAD);
        x.mesh(0);
        due(x.game(0, 0), 0);
        due(x.game(0, 1), NOT);
        due(x.game(1, 0), BAD);
        due(x.game(-1, 0), BAD);
        due(x.game(0, 2), BAD);
        due(x.game(0, -1), BAD);
        // all pass: who begins wins with an odd number of words; words 10 and 11 are not played
        for (int n = 1; n <= 12; n++) {
            x.word(0, 0);
            due(x.game(0, 0), Math.min(n, 10) % 2);
            due(x.game(0, 1), Math.min(n, 10) % 2 == 1 ? 0 : NOT);
        }
        // place 0 lets all, place 1 sizes below 1 only: who takes that word away wins
        TalkStrainer y = sizes(4, "p=0|s<1&p=1");
        due(y.game(0, 0), 1);
        due(y.game(0, 1), 0);
        // word 0 can't be said first, and any other lets the other one take it, and then nothing goes
        tell(y, "p=0&s>0|s<1&p=1");
        due(y.game(0, 0), 0);
        tell(y, "p=0|s=2&p=1");
        due(y.game(0, 1), 2);
        // the mesh is empty, whatever lies in it in deed, and nothing is left in it
        tell(y, "l=0&p=0");
        lay(y, 0, 0, 1);
        y.speak(0, 0);
        due(y.of(0, 8), 1);
        due(y.game(0, 0), 1);
        due(y.game(0, 1), 0);
    }

    private static void drawn() {
        promise = 27;
        TalkStrainer x = new TalkStrainer();
        due(x.drawn(1, 101, 0, 0), BAD);
        x.mesh(0);
        due(x.drawn(1, 101, 0, 0), 0);
        due(x.drawn(1, 101, 0, 1), 0);
        x.word(9, 9);
        int[] wrongs = {0, 1, 100, 121, 3021, 3101, 3120, -101, -1, LEAST, GREATEST, 99};
        for (int nm : wrongs) {
            due(x.drawn(1, nm, 0, 0), BAD);
        }
        due(x.drawn(1, 101, 1, 0), BAD);
        due(x.drawn(1, 101, -1, 0), BAD);
        due(x.drawn(1, 101, 0, 2), BAD);
        due(x.drawn(1, 101, 0, -1), BAD);
        due(x.drawn(1, 101, 0, 0), 4);
        due(x.drawn(1, 3020, 0, 0), 2400);
        due(x.drawn(1, 3020, 0, 1), 0);
        // by seed 0 the words drawn are 0, 1, 9, 7; only word 0 has a size
        for (int n = 1; n < 12; n++) {
            x.word(0, 0);
        }
        tell(x, "s");
        due(x.drawn(0, 101, 0, 0), 3);
        // l goes on through an evening, and begins anew with the next one
        tell(x, "l>5");
        due(x.drawn(5, 102, 0, 0), 6);
        due(x.drawn(5, 302, 0, 0), 18);
        due(x.drawn(5, 101, 0, 0), 4);
        // places begin anew with each saying
        tell(x, "p<3");
        due(x.drawn(5, 320, 0, 0), 60);
        // what is left in deed is not there
        lay(x, 0, 1, 1, 1, 1);
        x.speak(0, 0);
        tell(x, "l");
        due(x.drawn(5, 203, 0, 0), 2);
        tell(x, "1");
        for (int n = 0; n < 12; n++) {
            x.mend(n, 1, 3);
        }
        due(x.drawn(5, 3020, 0, 1), 0);
        x.person(0);
        due(x.drawn(5, 3020, 0, 1), 600);
        x.mend(0, 7, 0);
        tell(x, "p<3");
        due(x.drawn(5, 3020, 0, 1), 0);
    }

    // ---- in deed

    private static void speak() {
        refusals(refusing(), 4, 5, 28);
        TalkStrainer x = sizes(3, "l<2?0;s>0");
        lay(x, 0, 0, 1, 2);
        due(x.speak(0, 0), 1);
        due(x.of(0, 8), 2);
        due(x.speak(0, 0), 2);
        due(x.of(0, 8), 3);
        due(x.through(0, 0, 0), 1);
        due(x.speak(0, 1), BAD);
        due(x.speak(0, -1), BAD);
        due(x.led(0), 2);
        x.mesh(0);
        due(x.speak(0, 1), 1);
        due(x.of(0, 8), 3);
        due(x.of(1, 8), 2);
        lay(x, 0);
        due(x.speak(0, 0), 0);
        due(x.led(0), 4);
    }

    private static void rinse() {
        promise = 29;
        TalkStrainer x = sizes(2, "s");
        x.mend(0, 1, 4);
        due(x.rinse(1), BAD);
        due(x.rinse(-1), BAD);
        due(x.rinse(0), 0);
        lay(x, 0, 0, 0, 1);
        x.speak(0, 0);
        due(x.of(0, 9), 8);
        due(x.rinse(0), 2);
        due(x.of(0, 8), 0);
        due(x.of(0, 9), 0);
        due(x.rinse(0), 0);
        due(x.led(4), 3);
        due(x.led(5), 8);
    }

    private static void led() {
        promise = 30;
        TalkStrainer x = new TalkStrainer();
        word(x, 0, 9, 0, 2, 0);
        word(x, 0, 9, 0, 2, 1);
        word(x, 9, 9, 0, 2, 2);
        x.mesh(0);
        x.person(9);
        x.person(9);
        x.person(9);
        lay(x, 0, 0, 1, 2);
        x.speak(0, 0);
        x.speak(0, 0);
        x.rinse(0);
        int[] wants = {2, 4, 2, 4, 1, 18};
        for (int what = 0; what <= 5; what++) {
            due(x.led(what), wants[what]);
        }
        due(x.led(6), BAD);
        due(x.led(-1), BAD);
        x.through(0, 0, 0);
        x.drawn(1, 101, 0, 0);
        due(x.led(0), 2);
    }

    private static void imageAndBack() {
        promise = 31;
        TalkStrainer x = sizes(2, "s");
        x.mend(0, 1, 4);
        lay(x, 0, 0, 1);
        x.speak(0, 0);
        due(x.image(), 1);
        x.speak(0, 0);
        x.rinse(0);
        x.mesh(1);
        x.speak(0, 1);
        due(x.led(0), 3);
        promise = 32;
        due(x.back(), 1);
        due(x.of(0, 8), 1);
        due(x.of(0, 9), 4);
        due(x.of(1, 8), 0);
        due(x.of(1, 9), 0);
        int[] wants = {1, 1, 1, 0, 0, 0};
        for (int what = 0; what <= 5; what++) {
            due(x.led(what), wants[what]);
        }
        // words and numbers are not of the image, and it can be laid back again
        x.speak(0, 0);
        x.mend(0, 1, 9);
        x.word(3, 3);
        due(x.back(), 1);
        due(x.of(0, 1), 9);
        due(x.of(0, 9), 4);
        due(x.count(0), 3);
        due(x.count(4), 2);
        due(x.count(1), 2);
        promise = 31;
        x.speak(0, 1);
        due(x.image(), 2);
        x.rinse(1);
        due(x.back(), 2);
        due(x.of(1, 8), 1);
        due(x.of(1, 9), 9);
        promise = 32;
        due(new TalkStrainer().back(), STATE);
    }

    private static void undoAndRedo() {
        promise = 33;
        TalkStrainer x = new TalkStrainer();
        due(x.undo(), STATE);
        x.word(1, 1);
        x.mesh(1);
        x.person(1);
        due(x.undo(), STATE);
        for (int what = 0; what <= 7; what++) {
            x.mend(0, what, 0);
        }
        // SWEET and MEANT were 0 already: no changes
        due(x.count(4), 6);
        due(x.undo(), 5);
        due(x.of(0, 7), 12);
        due(x.undo(), 4);
        due(x.of(0, 6), 1);
        due(x.undo(), 3);
        due(x.of(0, 5), 1);
        due(x.undo(), 2);
        due(x.of(0, 3), 2);
        promise = 34;
        due(x.redo(), 3);
        due(x.of(0, 3), 0);
        due(x.redo(), 2);
        due(x.count(4), 4);
        // the same number again, a word, a deed: no change came behind
        x.mend(0, 5, 0);
        x.word(2, 2);
        lay(x, 0, 0);
        x.speak(0, 0);
        due(x.redo(), 1);
        due(x.redo(), 0);
        due(x.redo(), STATE);
        due(x.of(0, 7), 0);
        x.undo();
        x.undo();
        due(x.mend(0, 0, 5), 0);
        due(x.redo(), STATE);
        due(x.count(4), 5);
        promise = 33;
        TalkStrainer y = new TalkStrainer();
        y.word(0, 0);
        for (int n = 1; n <= 50; n++) {
            y.mend(0, 0, n % 7);
            due(y.count(4), Math.min(n, 40));
        }
        for (int n = 39; n >= 0; n--) {
            due(y.undo(), n);
            due(y.of(0, 0), (10 + n) % 7);
        }
        due(y.undo(), STATE);
        due(y.of(0, 0), 3);
        promise = 34;
        for (int n = 39; n >= 0; n--) {
            due(y.redo(), n);
            due(y.of(0, 0), (50 - n) % 7);
        }
        due(y.redo(), STATE);
        due(y.mend(0, 0, 11), BAD);
        y.undo();
        due(y.mend(0, 0, 11), BAD);
        due(y.redo(), 0);
    }

    // ---- acts, shelves

    private static void bodyActTrace() {
        promise = 35;
        TalkStrainer x = new TalkStrainer();
        due(x.body(-1), BAD);
        due(x.body(8), BAD);
        for (int n = 0; n < 50; n++) {
            due(x.body(n % 8), n);
        }
        due(x.body(0), FULL);
        due(x.body(8), BAD);
        due(x.count(5), 50);
        promise = 36;
        int[][] answers = {{5 + 8, 26, 5 ^ 8, 26 - (1 ^ 8)}, {5 + 9 + 3, 34, 5 ^ 9, 34 - (1 ^ 9)}, {15, -30, 5 ^ 10, -30 - (1 ^ 10)},
            {16, -34, (5 ^ 11) * 3, -34 - (1 ^ 11) * 3}, {20, 40, 5 ^ 12, (40 - (1 ^ 12)) ^ 5},
            {18, -38, (5 ^ 13) * 3 - 15, -38 - ((1 ^ 13) * 3 - 15) + 1}, {38, 76, 5 ^ 14, 76 - (1 ^ 14)},
            {39, 78 + (2 ^ 15), 5 ^ 15, 78 + (2 ^ 15) - (1 ^ 15)}};
        for (int kind = 0; kind < 8; kind++) {
            for (int act = 0; act < 4; act++) {
                due(x.act(8 + kind, act, 5), answers[kind][act]);
            }
        }
        due(x.act(0, 1, GREATEST), -2);
        due(x.act(8, 0, GREATEST), LEAST + 7);
        promise = 37;
        int[][] traces = {{2, 10, 1, 11}, {2, 10, 20, 1, 11}, {2, 30, 10, 1, 11}, {2, 41, 30, 10, 1, 40, 11}, {50, 2, 10, 20, 1, 11},
            {61, 2, 41, 30, 10, 1, 60, 40, 11, 1}, {2, 10, 70, 1, 11}, {2, 80, 10, 81, 70, 1, 11, 11}};
        for (int kind = 0; kind < 8; kind++) {
            x.act(kind, 3, 0);
            due(x.count(6), traces[kind].length);
            for (int i = 0; i < traces[kind].length; i++) {
                due(x.trace(i), traces[kind][i]);
            }
            due(x.trace(traces[kind].length), BAD);
        }
        due(x.trace(-1), BAD);
        due(x.trace(24), BAD);
        promise = 36;
        int[][] none = {{50, 0}, {-1, 0}, {0, 4}, {0, -1}, {LEAST, GREATEST}};
        for (int[] one : none) {
            x.act(0, 0, 1);
            due(x.count(6), 1);
            due(x.act(one[0], one[1], 5), 0);
            due(x.trace(0), BAD);
            due(x.count(6), 0);
        }
    }

    private static void keepAndTaken() {
        promise = 38;
        TalkStrainer x = new TalkStrainer();
        due(x.keep(0, 0), BAD);
        for (int kind = 0; kind < 8; kind++) {
            x.body(kind);
        }
        due(x.keep(6, 0), BAD);
        due(x.keep(-1, 0), BAD);
        due(x.keep(0, -2), BAD);
        due(x.keep(0, 8), BAD);
        due(x.keep(5, -1), 1);
        due(x.keep(5, 7), 1);
        due(x.taken(5, 7), 7);
        due(x.keep(5, 8), BAD);
        due(x.taken(5, 7), 7);
        due(x.keep(5, -1), 1);
        due(x.taken(5, 7), -11);
        x.row(5, 0, 4);
        due(x.keep(5, 1), 1);
        due(x.element(5, 0), MIN);
        promise = 43;
        int[] above = {-1, 0, 0, 2, 1, 3, 0, 6};
        for (int kind = 0; kind < 8; kind++) {
            x.keep(0, kind);
            boolean[] fits = new boolean[8];
            for (int k = kind; k >= 0; k = above[k]) {
                fits[k] = true;
            }
            for (int k = 0; k < 8; k++) {
                due(x.taken(0, k), fits[k] ? kind : -12);
            }
        }
        due(x.taken(0, -1), BAD);
        due(x.taken(0, 8), BAD);
        due(x.taken(6, 0), BAD);
        due(x.taken(1, 8), BAD);
        due(x.taken(1, 0), -11);
        x.row(1, 3, 1);
        due(x.taken(1, 0), -12);
    }

    private static void rowPutElement() {
        promise = 39;
        TalkStrainer x = new TalkStrainer();
        due(x.row(-1, 0, 1), BAD);
        due(x.row(6, 0, 1), BAD);
        due(x.row(0, -1, 1), BAD);
        due(x.row(0, 5, 1), BAD);
        due(x.row(0, 0, 61), BAD);
        due(x.row(0, 5, -1), BAD);
        due(x.row(0, 0, -1), -14);
        due(x.row(0, 0, LEAST), -14);
        due(x.row(0, 0, GREATEST), BAD);
        due(x.taken(0, 0), -11);
        due(x.row(0, 0, 60), 1);
        due(x.row(0, 0, -1), -14);
        due(x.element(0, 59), 0);
        promise = 40;
        long v = 0x123456789abcdef0L;
        long[] wants = {(byte) v, (short) v, (int) v, v, 1};
        for (int sort = 0; sort <= 4; sort++) {
            x.row(1, sort, 3);
            due(x.put(1, 1, v), 1);
            due(x.element(1, 1), wants[sort]);
            due(x.element(1, 0), 0);
            due(x.put(1, 1, 0), 1);
            due(x.element(1, 1), 0);
            due(x.put(1, 2, -1), 1);
            due(x.element(1, 2), sort == 4 ? 1 : -1);
            due(x.put(1, 2, 1L << 40), 1);
            due(x.element(1, 2), sort == 4 ? 1 : sort == 3 ? 1L << 40 : 0);
            due(x.put(1, 3, 1), -13);
            due(x.put(1, -1, 1), -13);
        }
        due(x.put(2, 0, 1), -11);
        due(x.put(6, 0, 1), BAD);
        due(x.put(-1, -1, 1), BAD);
        x.body(0);
        x.keep(2, 0);
        due(x.put(2, -1, 1), -12);
        due(x.put(2, 0, 1), -12);
        x.row(2, 0, 0);
        due(x.put(2, 0, 1), -13);
        promise = 41;
        x.row(3, 3, 2);
        due(x.put(3, 0, Long.MAX_VALUE), 1);
        due(x.element(3, 0), Long.MAX_VALUE);
        due(x.put(3, 1, -7), 1);
        due(x.element(3, 1), -7);
        due(x.element(3, 2), MIN);
        due(x.element(3, -1), MIN);
        due(x.element(4, 0), MIN);
        due(x.element(6, 0), MIN);
        due(x.element(-1, 0), MIN);
        x.keep(4, 0);
        due(x.element(4, 0), MIN);
        // a new row is 0 again, on a shelf that held another
        x.row(3, 3, 2);
        due(x.element(3, 1), 0);
    }

    private static void shift() {
        promise = 42;
        TalkStrainer x = new TalkStrainer();
        lay(x, 0, 1, 2, 3, 4, 5);
        due(x.shift(0, 0, 0, 1, 4), 4);
        int[] up = {1, 1, 2, 3, 4};
        for (int i = 0; i < 5; i++) {
            due(x.element(0, i), up[i]);
        }
        due(x.shift(0, 2, 0, 0, 3), 3);
        int[] down = {2, 3, 4, 3, 4};
        for (int i = 0; i < 5; i++) {
            due(x.element(0, i), down[i]);
        }
        x.row(1, 0, 3);
        due(x.shift(0, 3, 1, 1, 2), 2);
        due(x.element(1, 0), 0);
        due(x.element(1, 1), 3);
        due(x.element(1, 2), 4);
        due(x.shift(0, 5, 1, 3, 0), 0);
        int[][] noPlace = {{0, 0, -1}, {-1, 0, 1}, {0, -1, 1}, {5, 0, 1}, {0, 3, 1}, {6, 0, 0}, {0, 4, 0}, {0, 0, 4}, {GREATEST, 0, 1},
            {0, GREATEST, 1}, {1, 1, GREATEST}, {LEAST, LEAST, LEAST}, {GREATEST, GREATEST, GREATEST}};
        for (int[] one : noPlace) {
            due(x.shift(0, one[0], 1, one[1], one[2]), -13);
        }
        due(x.shift(-1, 0, 1, 0, 1), BAD);
        due(x.shift(0, 0, 6, 0, 1), BAD);
        due(x.shift(2, 0, 1, 0, 1), -11);
        due(x.shift(0, 0, 2, 0, 1), -11);
        due(x.shift(2, 0, 2, 0, -1), -11);
        x.body(0);
        x.keep(3, 0);
        due(x.shift(3, 0, 2, 0, 1), -11);
        due(x.shift(3, 0, 0, 0, 1), -12);
        due(x.shift(0, 0, 3, 0, 1), -12);
        due(x.shift(3, 0, 3, 0, 0), -12);
        x.row(4, 1, 5);
        due(x.shift(0, 0, 4, 0, 1), -12);
        due(x.shift(0, -1, 4, 0, 1), -12);
        due(x.shift(4, 0, 4, 2, 3), 3);
        for (int i = 0; i < 5; i++) {
            due(x.element(0, i), down[i]);
        }
    }

    private static void count() {
        promise = 44;
        TalkStrainer x = new TalkStrainer();
        due(x.count(-1), BAD);
        due(x.count(7), BAD);
        x.word(1, 1);
        x.word(1, 1);
        x.mesh(1);
        x.mesh(1);
        x.mesh(1);
        for (int n = 0; n < 4; n++) {
            x.person(1);
        }
        for (int n = 0; n < 5; n++) {
            x.feed('1');
        }
        x.mend(0, 0, 2);
        for (int n = 0; n < 6; n++) {
            x.body(5);
        }
        x.act(0, 3, 1);
        int[] wants = {2, 3, 4, 5, 1, 6, 10};
        for (int what = 0; what <= 6; what++) {
            due(x.count(what), wants[what]);
        }
        x.undo();
        due(x.count(4), 0);
    }
}
