/** Boundary cases of bodies, their acts, and the shelves: promises 35 to 44. */
final class ShelfBoundaries extends Sentences {

    /** A BODY of each KIND, so that BODY k is of KIND k. */
    private static TalkStrainer kinds() {
        TalkStrainer x = new TalkStrainer();
        for (int kind = 0; kind <= 7; kind++) {
            x.body(kind);
        }
        return x;
    }

    // ---- 35: body

    static void kindsAre0To7() {
        sentence(35, "A BODY of a KIND (0 .. 7) is kept: its number. BAD, FULL.");
        TalkStrainer x = new TalkStrainer();
        int[] noSuch = {-1, 8, LEAST, GREATEST};
        for (int kind : noSuch) {
            due(x.body(kind), BAD);
        }
        due(x.count(5), 0);
        for (int kind = 0; kind <= 7; kind++) {
            due(x.body(kind), kind);
            due(x.keep(0, kind), 1);
            due(x.taken(0, 0), kind);
        }
        due(x.body(8), BAD);
        due(x.count(5), 8);
    }

    static void bodiesAre0To49() {
        sentence(35, "BODIES 0 .. 49 are kept by call");
        TalkStrainer x = new TalkStrainer();
        for (int n = 0; n < 49; n++) {
            x.body(0);
        }
        due(x.count(5), 49);
        due(x.act(49, 0, 1), 0);
        due(x.body(8), BAD);
        due(x.body(7), 49);
        due(x.body(0), FULL);
        due(x.body(7), FULL);
        due(x.body(8), BAD);
        due(x.body(-1), BAD);
        due(x.count(5), 50);
        due(x.act(49, 1, 0), ((0 + 49) * 2 - 1) * 2 + (2 ^ 49));
        due(x.act(50, 1, 0), 0);
        due(x.keep(0, 49), 1);
        due(x.taken(0, 7), 7);
        due(x.keep(0, 50), BAD);
    }

    // ---- 36: act

    static void actsAre0To3() {
        sentence(36, "An ACT (0 .. 3) of a BODY with x. 0, and no TRACE then: no such BODY, ACT.");
        TalkStrainer x = kinds();
        int[] noSuch = {-1, 4, LEAST, GREATEST};
        int[] noBody = {-1, 8, 50, LEAST, GREATEST};
        for (int act : noSuch) {
            due(x.act(7, 3, 5) == 0 ? 0 : 1, 1);
            due(x.trace(0), 2);
            due(x.act(7, act, 5), 0);
            due(x.trace(0), BAD);
            due(x.count(6), 0);
        }
        for (int body : noBody) {
            due(x.act(0, 0, 5), 5);
            due(x.trace(0), 1);
            due(x.act(body, 0, 5), 0);
            due(x.trace(0), BAD);
            due(x.count(6), 0);
        }
        int[] due = {5, 10, 5, 9};
        for (int act = 0; act <= 3; act++) {
            due(x.act(0, act, 5), due[act]);
        }
        due(x.act(7, 0, 5), 23);
        due(new TalkStrainer().act(0, 0, 5), 0);
        // what answers 0 by itself leaves a trace
        due(x.act(0, 0, 0), 0);
        due(x.trace(0), 1);
        due(x.count(6), 1);
    }

    static void passesOfIntsThatWrap() {
        sentence(36, "ACTS with x (an int that wraps): 0 passes");
        TalkStrainer x = kinds();
        int half = 0x40000000;
        // LEAF: x + n, TEA: x + n + 3, MAID: (x + n) * 2, SHADOW: (x + n) * 2 - 1
        x.body(0);
        due(x.act(0, 0, GREATEST), GREATEST);
        due(x.act(8, 0, GREATEST - 8), GREATEST);
        due(x.act(8, 0, GREATEST - 7), LEAST);
        due(x.act(1, 0, GREATEST - 4), GREATEST);
        due(x.act(1, 0, GREATEST - 3), LEAST);
        due(x.act(1, 0, GREATEST), LEAST + 3);
        due(x.act(6, 0, half - 7), GREATEST - 1);
        due(x.act(6, 0, half - 6), LEAST);
        due(x.act(7, 0, half - 8), GREATEST - 2);
        due(x.act(7, 0, half - 7), GREATEST);
        due(x.act(7, 0, half - 6), LEAST + 1);
        due(x.act(0, 0, LEAST), LEAST);
    }

    static void staysOfIntsThatWrap() {
        sentence(36, "(an int that wraps): 0 passes, 1 stays");
        TalkStrainer x = kinds();
        int half = 0x40000000;
        int quarter = 0x20000000;
        // LEAF: x * 2, BARB: -((x + n) * 2), COMPLIMENT: of x + 1, SHADOW: ((x + n) * 2 - 1) * 2 + (2 ^ n)
        due(x.act(0, 1, half - 1), GREATEST - 1);
        due(x.act(0, 1, half), LEAST);
        due(x.act(0, 1, GREATEST), -2);
        due(x.act(0, 1, -half), LEAST);
        due(x.act(0, 1, -half - 1), GREATEST - 1);
        due(x.act(2, 1, half - 3), LEAST + 2);
        due(x.act(2, 1, half - 2), LEAST);
        due(x.act(2, 1, half - 1), GREATEST - 1);
        due(x.act(3, 1, GREATEST - 1), -4);
        due(x.act(3, 1, GREATEST), -6);
        due(x.act(7, 1, quarter - 8), GREATEST);
        due(x.act(7, 1, quarter - 7), LEAST + 3);
    }

    static void hurtsOfIntsThatWrap() {
        sentence(36, "2 hurts, 3 tells; n its number.");
        TalkStrainer x = kinds();
        int third = 715827882;
        int half = 0x40000000;
        // LEAF: x ^ n, COMPLIMENT: (x ^ n) * 3, PREACHER: (x ^ n) * 3 - (2 + n)
        due(x.act(0, 2, LEAST), LEAST);
        due(x.act(7, 2, GREATEST), GREATEST - 7);
        due(x.act(7, 2, -1), -8);
        due(x.act(3, 2, third ^ 3), GREATEST - 1);
        due(x.act(3, 2, third + 1 ^ 3), LEAST + 1);
        due(x.act(5, 2, -third + 2 ^ 5), LEAST + 1);
        due(x.act(5, 2, -third ^ 5), GREATEST - 4);
        // tells: stays - hurts(1), of TUESDAY that ^ 5, of PREACHER that + 1
        due(x.act(0, 3, half - 1), GREATEST - 2);
        due(x.act(0, 3, half), GREATEST);
        due(x.act(4, 3, half - 7), GREATEST - 1);
        due(x.act(4, 3, half - 8), 0x7ffffff9 ^ 5);
        due(x.act(5, 3, half - 6), GREATEST - 3);
        due(x.act(5, 3, half - 7), GREATEST - 1);
    }

    static void actsOfEachKind() {
        sentence(36, "BODIES of acts: PASSES (an interface of LEAF): 1 passes: x + n. LEAF: 10 stays: passes(x) * 2. 11 hurts: x ^ n. "
            + "TELLS (of LEAF): 2 tells: stays(x) - hurts(1). TEA: 20 passes: super.passes(x) + 3. BARB: 30 stays: -super.stays(x). "
            + "COMPLIMENT: 40 hurts: super.hurts(x) * 3. 41 stays: super.stays(x + 1). TUESDAY: 50 tells: super.tells(x) ^ 5. "
            + "PREACHER: 60 hurts: super.hurts(x) - passes(2). 61 tells: super.tells(x) + 1. MAID: 70 passes: super.passes(x) * 2. "
            + "SHADOW: 80 stays: super.stays(x) + hurts(2). 81 passes: super.passes(x) - 1.");
        // passes, stays, hurts, tells of 10, by the bodies 0 to 7
        int[][] due = {
            {10, 20, 10, 20 - 1}, {14, 28, 11, 28 - 0}, {12, -24, 8, -24 - 3}, {13, -28, 27, -28 - 6},
            {17, 34, 14, (34 - 5) ^ 5}, {15, -32, 45 - 7, -32 - (12 - 7) + 1}, {32, 64, 12, 64 - 7}, {33, 66 + 5, 13, 71 - 6}};
        TalkStrainer x = kinds();
        for (int kind = 0; kind <= 7; kind++) {
            for (int act = 0; act <= 3; act++) {
                due(x.act(kind, act, 10), due[kind][act]);
            }
        }
    }

    static void actsThatComeFromAbove() {
        sentence(36, "passes(..) and so on: the body of its own KIND, or of the next KIND above that has one; super: from the KIND above the body's on.");
        TalkStrainer x = kinds();
        // the first body that runs: that of the kind, or from one, two, three kinds above
        int[][] first = {{1, 10, 11, 2}, {20, 10, 11, 2}, {1, 30, 11, 2}, {1, 41, 40, 2}, {20, 10, 11, 50}, {1, 41, 60, 61}, {70, 10, 11, 2}, {81, 80, 11, 2}};
        for (int kind = 0; kind <= 7; kind++) {
            for (int act = 0; act <= 3; act++) {
                x.act(kind, act, 1);
                due(x.trace(0), first[kind][act]);
            }
        }
        // above COMPLIMENT's 40 there is none of BARB, so that LEAF's 11 runs; above TUESDAY's 50 none of TEA, so that 2 does
        x.act(3, 2, 1);
        due(x.trace(1), 11);
        due(x.trace(2), BAD);
        x.act(4, 3, 1);
        due(x.trace(1), 2);
        // above PREACHER's 61 neither COMPLIMENT nor BARB has one
        x.act(5, 3, 1);
        due(x.trace(1), 2);
        due(x.trace(2), 41);
    }

    // ---- 37: trace

    static void theTraceOfTheLatestAct() {
        sentence(37, "THE TRACE's i-th body. BAD.");
        TalkStrainer x = kinds();
        due(x.trace(0), BAD);
        int[][] traces = {{1}, {81, 70, 1}, {61, 2, 41, 30, 10, 1, 60, 40, 11, 1}, {50, 2, 10, 20, 1, 11}, {11}};
        int[] bodies = {0, 7, 5, 4, 6};
        int[] acts = {0, 0, 3, 3, 2};
        for (int n = 0; n < traces.length; n++) {
            x.act(bodies[n], acts[n], 1);
            int ran = traces[n].length;
            due(x.count(6), ran);
            for (int i = 0; i < ran; i++) {
                due(x.trace(i), traces[n][i]);
            }
            due(x.trace(ran), BAD);
            due(x.trace(-1), BAD);
            due(x.trace(LEAST), BAD);
            due(x.trace(GREATEST), BAD);
        }
        x.act(8, 0, 1);
        due(x.trace(0), BAD);
    }

    static void theFirst24AreKept() {
        sentence(37, "THE TRACE: numbers of the bodies that ran in the latest act(), as they began; the first 24 are kept.");
        TalkStrainer x = kinds();
        // no act of any KIND runs as many as 24: ten are the most, so that all are kept
        int most = 0;
        for (int body = 0; body <= 7; body++) {
            for (int act = 0; act <= 3; act++) {
                x.act(body, act, 1);
                int ran = x.count(6);
                most = Math.max(most, ran);
                due(x.trace(ran - 1) > 0 ? 1 : 0, 1);
                due(x.trace(ran), BAD);
                due(x.trace(23), BAD);
                due(x.trace(24), BAD);
            }
        }
        due(most, 10);
    }

    // ---- 38: keep

    static void keepABodyOrNothing() {
        sentence(38, "A SHELF holds nothing (body -1), or a BODY: 1. BAD.");
        TalkStrainer x = new TalkStrainer();
        due(x.keep(0, 0), BAD);
        due(x.keep(0, -1), 1);
        due(x.taken(0, 0), NOTHING_THERE);
        x.body(3);
        x.body(5);
        int[] noBody = {-2, 2, LEAST, GREATEST};
        for (int body : noBody) {
            due(x.keep(0, body), BAD);
        }
        due(x.keep(0, 0), 1);
        due(x.taken(0, 0), 3);
        due(x.keep(0, 1), 1);
        due(x.taken(0, 0), 5);
        due(x.keep(0, 2), BAD);
        due(x.keep(0, -2), BAD);
        due(x.taken(0, 0), 5);
        due(x.keep(0, -1), 1);
        due(x.keep(0, -1), 1);
        due(x.taken(0, 0), NOTHING_THERE);
        // a row goes, when a body comes or nothing does
        x.row(0, 3, 1);
        due(x.element(0, 0), 0);
        due(x.keep(0, 0), 1);
        due(x.element(0, 0), REFUSED);
        due(x.put(0, 0, 1), OTHER_KIND);
        due(x.row(0, 3, 1), 1);
        due(x.element(0, 0), 0);
        due(x.keep(0, -1), 1);
        due(x.put(0, 0, 1), NOTHING_THERE);
    }

    static void shelvesAre0To5() {
        sentence(38, "SHELVES 0 .. 5 each hold nothing (at first)");
        TalkStrainer x = kinds();
        int[] noSuch = {-1, 6, LEAST, GREATEST};
        for (int shelf : noSuch) {
            due(x.keep(shelf, 0), BAD);
            due(x.keep(shelf, -1), BAD);
        }
        for (int shelf = 0; shelf <= 5; shelf++) {
            due(x.taken(shelf, 0), NOTHING_THERE);
            due(x.put(shelf, 0, 1), NOTHING_THERE);
            due(x.keep(shelf, shelf), 1);
        }
        for (int shelf = 0; shelf <= 5; shelf++) {
            due(x.taken(shelf, 0), shelf);
        }
    }

    // ---- 39: row

    static void rowsHave0To60() {
        sentence(39, "A SHELF holds a ROW: 1. BAD (sort, n above 60); -14.");
        sentence(39, "-14 a size below 0.");
        TalkStrainer x = new TalkStrainer();
        int[] noSort = {-1, 5, LEAST, GREATEST};
        int[] tooLong = {61, 62, GREATEST};
        int[] below = {-1, -2, LEAST};
        int[] fits = {0, 1, 59, 60};
        for (int sort : noSort) {
            due(x.row(0, sort, 1), BAD);
            due(x.row(0, sort, -1), BAD);
            due(x.row(0, sort, 61), BAD);
        }
        for (int sort = 0; sort <= 4; sort++) {
            for (int n : tooLong) {
                due(x.row(0, sort, n), BAD);
            }
            for (int n : below) {
                due(x.row(0, sort, n), SIZE_BELOW_0);
                due(x.row(6, sort, n), BAD);
            }
        }
        due(x.put(0, 0, 1), NOTHING_THERE);
        for (int sort = 0; sort <= 4; sort++) {
            for (int n : fits) {
                due(x.row(0, sort, n), 1);
                due(x.element(0, n - 1), n == 0 ? REFUSED : 0);
                due(x.element(0, n), REFUSED);
                due(x.put(0, n, 1), NO_PLACE);
            }
        }
        // what is refused leaves the row that is there
        x.put(0, 59, 1);
        x.row(0, 0, 61);
        x.row(0, 0, -1);
        x.row(0, 5, 1);
        due(x.element(0, 59), 1);
    }

    static void rowsOnShelves0To5() {
        sentence(39, "or a ROW: of 0 bytes, 1 shorts, 2 ints, 3 longs, 4 booleans, of 0 .. 60 elements, 0 at first (false)");
        TalkStrainer x = kinds();
        int[] noSuch = {-1, 6, LEAST, GREATEST};
        for (int shelf : noSuch) {
            due(x.row(shelf, 0, 1), BAD);
        }
        for (int shelf = 0; shelf <= 5; shelf++) {
            due(x.row(shelf, shelf % 5, 60), 1);
            due(x.element(shelf, 0), 0);
            due(x.element(shelf, 59), 0);
            x.put(shelf, 0, 1);
            x.put(shelf, 59, 1);
            due(x.element(shelf, 59), 1);
        }
        // a new row is 0 again, though another was there, or a shorter one between
        for (int shelf = 0; shelf <= 5; shelf++) {
            due(x.row(shelf, shelf % 5, 1), 1);
            due(x.element(shelf, 0), 0);
            x.keep(shelf, shelf % 2 == 0 ? -1 : 0);
            due(x.row(shelf, shelf % 5, 60), 1);
            due(x.element(shelf, 0), 0);
            due(x.element(shelf, 59), 0);
        }
    }

    // ---- 40 and 41: put, element

    static void putRefused() {
        sentence(40, "Element i of a ROW becomes v: 1. BAD, -11, -12, -13.");
        sentence(40, "The host's REFUSALS: -11 nothing is there where something is wanted; -12 it is of another kind; -13 a place that is not there;");
        TalkStrainer x = kinds();
        int[] noSuch = {-1, 6, LEAST, GREATEST};
        int[] places = {-1, 0, 60, LEAST, GREATEST};
        for (int shelf : noSuch) {
            for (int place : places) {
                due(x.put(shelf, place, 1), BAD);
            }
        }
        for (int place : places) {
            due(x.put(5, place, 1), NOTHING_THERE);
        }
        x.keep(5, 0);
        for (int place : places) {
            due(x.put(5, place, 1), OTHER_KIND);
        }
        x.row(5, 3, 0);
        for (int place : places) {
            due(x.put(5, place, 1), NO_PLACE);
        }
        int[] lengths = {1, 2, 59, 60};
        for (int length : lengths) {
            x.row(5, 3, length);
            due(x.put(5, -1, 7), NO_PLACE);
            due(x.put(5, length, 7), NO_PLACE);
            due(x.put(5, LEAST, 7), NO_PLACE);
            due(x.put(5, GREATEST, 7), NO_PLACE);
            due(x.element(5, length - 1), 0);
            due(x.put(5, 0, 7), 1);
            due(x.put(5, length - 1, 8), 1);
            due(x.element(5, length - 1), 8);
            due(x.element(5, 0), length == 1 ? 8 : 7);
        }
    }

    static void whatIsPutInKeepsItsLowestBits() {
        sentence(40, "what is put in keeps its lowest bits (a boolean: whether it is not 0; 1 or 0).");
        int[] bits = {8, 16, 32};
        for (int sort = 0; sort <= 2; sort++) {
            TalkStrainer x = new TalkStrainer();
            x.row(0, sort, 1);
            long top = 1L << bits[sort] - 1;
            long[] put = {0, 1, -1, top - 1, top, top + 1, 2 * top - 1, 2 * top, 2 * top + 1, -top, -top - 1, -top + 1, Long.MAX_VALUE, Long.MIN_VALUE};
            long[] due = {0, 1, -1, top - 1, -top, -top + 1, -1, 0, 1, -top, top - 1, -top + 1, -1, 0};
            for (int n = 0; n < put.length; n++) {
                due(x.put(0, 0, put[n]), 1);
                due(x.element(0, 0), due[n]);
            }
        }
        TalkStrainer x = new TalkStrainer();
        x.row(0, 3, 1);
        long[] longs = {0, 1, -1, 1L << 32, -1L << 32, Long.MAX_VALUE, Long.MIN_VALUE};
        for (long v : longs) {
            due(x.put(0, 0, v), 1);
            due(x.element(0, 0), v);
        }
        x.row(0, 4, 1);
        for (long v : new long[] {0, 1, 0, -1, 0, 2, 0, 256, 0, 1L << 32, 0, Long.MIN_VALUE, 0, Long.MAX_VALUE}) {
            due(x.put(0, 0, v), 1);
            due(x.element(0, 0), v == 0 ? 0 : 1);
        }
    }

    static void elementRefused() {
        sentence(41, "Element i of a ROW; Long.MIN_VALUE: BAD, -11 to -13.");
        TalkStrainer x = kinds();
        int[] noSuch = {-1, 6, LEAST, GREATEST};
        for (int shelf : noSuch) {
            due(x.element(shelf, 0), REFUSED);
        }
        for (int shelf = 0; shelf <= 5; shelf++) {
            due(x.element(shelf, 0), REFUSED);
            x.keep(shelf, 0);
            due(x.element(shelf, 0), REFUSED);
            x.row(shelf, 3, 0);
            due(x.element(shelf, 0), REFUSED);
            x.row(shelf, 3, 3);
            x.put(shelf, 0, 5);
            x.put(shelf, 2, Long.MAX_VALUE);
            due(x.element(shelf, -1), REFUSED);
            due(x.element(shelf, 0), 5);
            due(x.element(shelf, 1), 0);
            due(x.element(shelf, 2), Long.MAX_VALUE);
            due(x.element(shelf, 3), REFUSED);
            due(x.element(shelf, LEAST), REFUSED);
            due(x.element(shelf, GREATEST), REFUSED);
        }
    }

    // ---- 42: shift

    static void shiftRefused() {
        sentence(42, "BAD, -11 (either), -12 (no ROWS, or of unlike sorts), -13 (n below 0, too).");
        TalkStrainer x = kinds();
        x.row(0, 2, 3);
        x.keep(1, 0);
        x.row(2, 3, 3);
        x.row(3, 2, 0);
        int[] noSuch = {-1, 6, LEAST, GREATEST};
        for (int shelf : noSuch) {
            for (int other = 0; other <= 5; other++) {
                due(x.shift(shelf, 0, other, 0, 0), BAD);
                due(x.shift(other, 0, shelf, 0, 0), BAD);
            }
        }
        // shelves 4 and 5 hold nothing, 1 a BODY
        for (int other = 0; other <= 5; other++) {
            due(x.shift(4, 0, other, 0, -1), NOTHING_THERE);
            due(x.shift(other, -1, 5, 0, 0), NOTHING_THERE);
        }
        for (int other = 0; other <= 3; other++) {
            due(x.shift(1, 0, other, 0, 0), OTHER_KIND);
            due(x.shift(other, 0, 1, 0, -1), OTHER_KIND);
        }
        due(x.shift(0, 0, 2, 0, 1), OTHER_KIND);
        due(x.shift(2, -1, 0, 0, 1), OTHER_KIND);
        for (int one = 0; one <= 4; one++) {
            for (int two = 0; two <= 4; two++) {
                x.row(4, one, 1);
                x.row(5, two, 1);
                due(x.shift(4, 0, 5, 0, 1), one == two ? 1 : OTHER_KIND);
            }
        }
        due(x.shift(0, 0, 3, 0, 0), 0);
        due(x.shift(0, 0, 3, 0, 1), NO_PLACE);
        due(x.shift(3, 0, 0, 0, 1), NO_PLACE);
    }

    static void shiftPlaces() {
        sentence(42, "-13 (n below 0, too).");
        TalkStrainer x = new TalkStrainer();
        x.row(0, 0, 5);
        x.row(1, 0, 3);
        // i, j, n, and what is due
        int[][] calls = {
            {0, 0, -1, -13}, {0, 0, 0, 0}, {0, 0, 3, 3}, {0, 0, 4, -13},
            {2, 0, 3, 3}, {3, 0, 3, -13}, {4, 0, 1, 1}, {5, 0, 1, -13}, {5, 0, 0, 0}, {6, 0, 0, -13}, {-1, 0, 1, -13}, {-1, 0, 0, -13},
            {0, 2, 1, 1}, {0, 3, 1, -13}, {0, 3, 0, 0}, {0, 4, 0, -13}, {0, -1, 1, -13}, {0, -1, 0, -13}, {0, 1, 2, 2}, {0, 1, 3, -13},
            {GREATEST, 0, 1, -13}, {0, GREATEST, 1, -13}, {1, 1, GREATEST, -13}, {0, 0, GREATEST, -13}, {GREATEST, GREATEST, GREATEST, -13},
            {LEAST, 0, 1, -13}, {0, LEAST, 1, -13}, {0, 0, LEAST, -13}, {GREATEST, 0, 0, -13}, {5, 3, 0, 0}, {5, 3, -1, -13}, {LEAST, 0, LEAST, -13}};
        for (int[] call : calls) {
            due(x.shift(0, call[0], 1, call[1], call[2]), call[3]);
        }
        x.row(2, 0, 60);
        x.row(3, 0, 60);
        x.put(2, 59, 7);
        due(x.shift(2, 0, 3, 0, 60), 60);
        due(x.element(3, 59), 7);
        due(x.shift(2, 0, 3, 0, 61), NO_PLACE);
        due(x.shift(2, 1, 3, 0, 60), NO_PLACE);
        due(x.shift(2, 59, 3, 0, 1), 1);
        due(x.element(3, 0), 7);
        x.row(4, 0, 0);
        due(x.shift(4, 0, 4, 0, 0), 0);
        due(x.shift(4, 0, 4, 0, 1), NO_PLACE);
    }

    static void shiftAsTheyAllWereBefore() {
        sentence(42, "n elements of a ROW from i on come to another one (or the same) from j on, as they all were before: n.");
        for (int sort = 0; sort <= 3; sort++) {
            TalkStrainer x = new TalkStrainer();
            x.row(0, sort, 6);
            for (int i = 0; i < 6; i++) {
                x.put(0, i, i + 1);
            }
            due(x.shift(0, 0, 0, 1, 5), 5);
            long[] up = {1, 1, 2, 3, 4, 5};
            for (int i = 0; i < 6; i++) {
                due(x.element(0, i), up[i]);
            }
            due(x.shift(0, 2, 0, 0, 4), 4);
            long[] down = {2, 3, 4, 5, 4, 5};
            for (int i = 0; i < 6; i++) {
                due(x.element(0, i), down[i]);
            }
            due(x.shift(0, 1, 0, 1, 5), 5);
            due(x.element(0, 5), 5);
            x.row(1, sort, 2);
            due(x.shift(0, 1, 1, 0, 2), 2);
            due(x.element(1, 0), 3);
            due(x.element(1, 1), 4);
            due(x.element(0, 1), 3);
            due(x.shift(0, 0, 1, 1, 0), 0);
            due(x.element(1, 1), 4);
        }
    }

    // ---- 43: taken

    static void takenRefused() {
        sentence(43, "What a SHELF holds, taken for a BODY of KIND k (0 .. 7), or under it: its KIND. BAD, -11, -12.");
        TalkStrainer x = kinds();
        int[] noShelf = {-1, 6, LEAST, GREATEST};
        int[] noKind = {-1, 8, LEAST, GREATEST};
        for (int shelf : noShelf) {
            due(x.taken(shelf, 0), BAD);
        }
        for (int kind : noKind) {
            due(x.taken(0, kind), BAD);
        }
        for (int kind = 0; kind <= 7; kind++) {
            x.keep(5, -1);
            due(x.taken(5, kind), NOTHING_THERE);
            x.keep(5, kind);
            due(x.taken(5, kind), kind);
            due(x.taken(5, 0), kind);
            for (int bad : noKind) {
                due(x.taken(5, bad), BAD);
            }
        }
        for (int sort = 0; sort <= 4; sort++) {
            x.row(5, sort, 1);
            due(x.taken(5, 0), OTHER_KIND);
            due(x.taken(5, 8), BAD);
        }
    }

    static void takenForWhatItIsUnder() {
        sentence(43, "0 LEAF; 1 TEA under LEAF; 2 BARB under LEAF; 3 COMPLIMENT under BARB; 4 TUESDAY under TEA; 5 PREACHER under COMPLIMENT; 6 MAID under LEAF; 7 SHADOW under MAID.");
        TalkStrainer x = kinds();
        // for each KIND all that it may be taken for, as bits
        int[] fits = {1, 1 + 2, 1 + 4, 1 + 4 + 8, 1 + 2 + 16, 1 + 4 + 8 + 32, 1 + 64, 1 + 64 + 128};
        for (int kind = 0; kind <= 7; kind++) {
            x.keep(0, kind);
            for (int k = 0; k <= 7; k++) {
                due(x.taken(0, k), (fits[kind] >> k & 1) != 0 ? kind : OTHER_KIND);
            }
        }
    }

    // ---- 44: count

    static void countWhat() {
        sentence(44, "BAD.");
        TalkStrainer x = new TalkStrainer();
        int[] noSuch = {-1, 7, LEAST, GREATEST};
        for (int what : noSuch) {
            due(x.count(what), BAD);
        }
        for (int what = 0; what <= 6; what++) {
            due(x.count(what), 0);
        }
    }

    static void countUpToWhatIsFull() {
        sentence(44, "How many: 0 WORDS, 1 MESHES, 2 PEOPLE, 3 bytes on THE TAPE, 4 changes that may be UNDONE, 5 BODIES,");
        TalkStrainer x = new TalkStrainer();
        for (int n = 1; n <= 14; n++) {
            x.word(0, 0);
            x.mesh(0);
            x.person(0);
            due(x.count(0), Math.min(n, 12));
            due(x.count(1), Math.min(n, 5));
            due(x.count(2), Math.min(n, 6));
        }
        TalkStrainer y = sizes(1, "");
        for (int n = 1; n <= 122; n++) {
            y.feed('1');
            y.mend(0, 0, n % 10);
            if (n <= 52) {
                y.body(0);
            }
            if (n >= 119 || n == 40 || n == 41 || n >= 49 && n <= 52) {
                due(y.count(3), Math.min(n, 120));
                due(y.count(4), Math.min(n, 40));
                due(y.count(5), Math.min(n, 50));
            }
        }
        y.law();
        due(y.count(3), 0);
        y.undo();
        due(y.count(4), 39);
        y.redo();
        due(y.count(4), 40);
    }

    static void countWhatRan() {
        sentence(44, "6 bodies that ran in the latest act() (all, kept or not).");
        TalkStrainer x = kinds();
        due(x.count(6), 0);
        int[] tells = {4, 5, 5, 7, 6, 10, 5, 8};
        for (int body = 0; body <= 7; body++) {
            x.act(body, 3, 1);
            due(x.count(6), tells[body]);
            x.act(body, 2, 1);
            due(x.count(6), body == 3 ? 2 : body == 5 ? 4 : 1);
        }
        x.act(8, 0, 0);
        due(x.count(6), 0);
        x.act(0, 0, 0);
        due(x.count(6), 1);
        x.act(0, 4, 0);
        due(x.count(6), 0);
    }
}
