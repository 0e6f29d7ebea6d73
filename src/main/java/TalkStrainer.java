/** A strainer for conversation: one speaks through it, and harm is found in it afterwards, like leaves. */
public final class TalkStrainer {
    public static final int BAD = -1, NOT = -2, FULL = -3, STATE = -5, VOID = -2000000000;

    private static final int NOTHING_THERE = -11, OTHER_KIND = -12, NO_PLACE = -13, SIZE_BELOW_0 = -14;
    // the least long, with which the calls that answer a long refuse
    private static final long REFUSED = -9223372036854775808L;
    private static final int SHELVES = 6, SAYING = 12, FINES = 10;

    private final Stock stock;
    private final Changes changes;
    private final Law law;
    private final Shelves shelves;
    private final Sieve sieve;
    private final Search search;
    private final Deeds deeds;
    private final Leaves leaves;
    private final int[] saying;
    private final int[] second;

    public TalkStrainer() {
        stock = new Stock();
        changes = new Changes();
        law = new Law();
        shelves = new Shelves();
        sieve = new Sieve(stock, law);
        search = new Search(stock, sieve);
        deeds = new Deeds();
        leaves = new Leaves();
        saying = new int[SAYING];
        second = new int[SAYING];
    }

    // ---- words, meshes, people

    public int word(int size, int harm) {
        if (!stock.allows(Stock.SIZE, size) || !stock.allows(Stock.HARM, harm)) {
            return BAD;
        }
        return stock.newWord(size, harm, 0);
    }

    public int words(int shelf, int i, int n) {
        if (!isShelf(shelf) || n < 1 || n > SAYING) {
            return BAD;
        }
        int refusal = shelves.bytesRefusal(shelf);
        if (refusal == OTHER_KIND) {
            return OTHER_KIND;
        }
        if (refusal == NOTHING_THERE || i < 0) {
            return 0;
        }
        int length = shelves.lengthOf(shelf);
        int made = 0;
        int at = i;
        while (made < n && at <= length - 3 && wordFromThree(shelf, at)) {
            made++;
            at += 3;
        }
        return made;
    }

    public int mesh(int fine) {
        return stock.allows(Stock.FINE, fine) ? stock.newMesh(fine) : BAD;
    }

    public int person(int thin) {
        return stock.allows(Stock.THIN, thin) ? stock.newPerson(thin) : BAD;
    }

    public int mend(int number, int what, int v) {
        if (!stock.has(number, what) || !stock.allows(what, v)) {
            return BAD;
        }
        int was = stock.get(number, what);
        if (was != v) {
            stock.set(number, what, v);
            changes.note(number, what, was, v);
        }
        return was;
    }

    public int of(int number, int what) {
        if (what == 8 || what == 9) {
            if (!isMesh(number)) {
                return BAD;
            }
            return what == 8 ? deeds.lyingIn(number) : deeds.harmIn(number);
        }
        return stock.has(number, what) ? stock.get(number, what) : BAD;
    }

    public int feed(int letter) {
        return letter < 0 || letter > 255 ? BAD : law.take(letter);
    }

    public int law() {
        return law.becomeTape();
    }

    public int lets(int wm, int pl) {
        if (wm < 0 || pl < 0 || pl > 9999) {
            return BAD;
        }
        int word = wm / 10;
        int mesh = wm % 10;
        if (word >= stock.words || !isMesh(mesh)) {
            return BAD;
        }
        return sieve.passes(word, fineOf(mesh), pl / 100, pl % 100) ? 1 : 0;
    }

    // ---- sayings in thought

    public int through(int shelf, int mesh, int what) {
        if (what < 0 || what > 5) {
            return BAD;
        }
        int n = hear(shelf, mesh);
        if (n < 0) {
            return n;
        }
        sieve.strain(saying, n, fineOf(mesh), 0);
        switch (what) {
            case 0: return sieve.cameCount;
            case 1: return sieve.leftCount;
            case 2: return sieve.makesSense(sieve.came, sieve.cameCount) ? 1 : 0;
            case 3: return sieve.hurtBy(sieve.came, sieve.cameCount);
            case 4: return sieve.hurtBy(saying, n);
            default: return sieve.sumOf(sieve.left, sieve.leftCount, Stock.HARM);
        }
    }

    public int nth(int shelf, int mesh, int k, int what) {
        if (k < 0 || what < 0 || what > 1) {
            return BAD;
        }
        int n = hear(shelf, mesh);
        if (n < 0) {
            return n;
        }
        sieve.strain(saying, n, fineOf(mesh), 0);
        int there = what == 0 ? sieve.cameCount : sieve.leftCount;
        if (k >= there || k >= SAYING) {
            return NOT;
        }
        return what == 0 ? sieve.came[k] : sieve.left[k];
    }

    public int several(int sm, int what) {
        if (what < 0 || what > 1) {
            return BAD;
        }
        int refusal = pairRefusal(sm);
        if (refusal != 0) {
            return refusal;
        }
        int n = readSaying(sm / 10, saying);
        int harm = 0;
        int row = sm % 10;
        int meshes = shelves.lengthOf(row);
        for (int at = 0; at < meshes; at++) {
            long mesh = shelves.valueAt(row, at);
            if (mesh < 0 || mesh >= stock.meshes) {
                break;
            }
            sieve.strain(saying, n, fineOf((int) mesh), 0);
            harm += sieve.sumOf(sieve.left, sieve.leftCount, Stock.HARM);
            n = sieve.copyCame(saying);
        }
        return what == 0 ? n : harm;
    }

    public int say(int shelf, int mesh, int k) {
        if (k < -1) {
            return BAD;
        }
        int n = hear(shelf, mesh);
        if (n < 0) {
            return n;
        }
        int length = search.shortestSaying(saying, n, fineOf(mesh));
        if (length < 0 || k >= length) {
            return NOT;
        }
        return k == -1 ? length : search.foundAt(k);
    }

    public int finest(int shelf) {
        int n = hear(shelf, Sieve.NONE);
        if (n < 0) {
            return n;
        }
        for (int fine = FINES - 1; fine >= 0; fine--) {
            sieve.strain(saying, n, fine, 0);
            if (sieve.leftCount == 0) {
                return fine;
            }
        }
        return NOT;
    }

    public int keeps(int set) {
        if (set < 0 || set > 4095) {
            return BAD;
        }
        int bits = 0;
        for (int mesh = 0; mesh < stock.meshes; mesh++) {
            if (sieve.keepsJust(set, fineOf(mesh))) {
                bits |= 1 << mesh;
            }
        }
        return bits;
    }

    public int leastLost(int shelf) {
        int n = hear(shelf, Sieve.NONE);
        if (n < 0) {
            return n;
        }
        int best = NOT;
        int least = 0;
        for (int mesh = 0; mesh < stock.meshes; mesh++) {
            sieve.strain(saying, n, fineOf(mesh), 0);
            int lost = sieve.sumOf(sieve.left, sieve.leftCount, Stock.SWEET);
            if ((best == NOT || lost < least) && sieve.hurtBy(sieve.came, sieve.cameCount) == 0) {
                best = mesh;
                least = lost;
            }
        }
        return best;
    }

    public int most(int what) {
        if (what < 0 || what > 1) {
            return BAD;
        }
        int set = search.greatestHarmlessSet();
        return what == 0 ? Integer.bitCount(set) : set;
    }

    // ---- what was said

    public long said(int cl, int mesh) {
        int refusal = pairRefusal(cl);
        if (refusal != 0 || !isMeshOrNone(mesh)) {
            return REFUSED;
        }
        int cameCount = readSaying(cl / 10, saying);
        int leftCount = readSaying(cl % 10, second);
        return search.mergings(saying, cameCount, second, leftCount, fineOf(mesh));
    }

    public int saidAt(int cl, int mesh, int k) {
        if (k < 0 || !isMeshOrNone(mesh)) {
            return BAD;
        }
        int refusal = pairRefusal(cl);
        if (refusal != 0) {
            return refusal;
        }
        int cameCount = readSaying(cl / 10, saying);
        int leftCount = readSaying(cl % 10, second);
        long ways = search.mergings(saying, cameCount, second, leftCount, fineOf(mesh));
        if (ways == 0 || k >= cameCount + leftCount) {
            return NOT;
        }
        search.firstMerging(saying, cameCount, second, leftCount, fineOf(mesh));
        return search.foundAt(k);
    }

    public long alone(int shelf, int mesh, int n) {
        if (n < 0 || n > 4) {
            return REFUSED;
        }
        int cameCount = hear(shelf, mesh);
        return cameCount < 0 ? REFUSED : search.sayingsWithLeft(saying, cameCount, n, fineOf(mesh));
    }

    public int howFine(int sc, int what) {
        if (what < 0 || what > 1) {
            return BAD;
        }
        int refusal = pairRefusal(sc);
        if (refusal != 0) {
            return refusal;
        }
        int n = readSaying(sc / 10, saying);
        int cameCount = readSaying(sc % 10, second);
        int many = 0;
        int least = NOT;
        for (int fine = FINES - 1; fine >= 0; fine--) {
            sieve.strain(saying, n, fine, 0);
            if (sieve.cameJust(second, cameCount)) {
                many++;
                least = fine;
            }
        }
        return what == 0 ? many : least;
    }

    public int between(int shelf, int mesh, int k) {
        if (k < 0) {
            return BAD;
        }
        int n = hear(shelf, mesh);
        if (n < 0) {
            return n;
        }
        return k > n ? NOT : search.unheardBehind(saying, n, k, fineOf(mesh));
    }

    public int meant(int shelf, int mesh, int what) {
        if (what < 0 || what > 1) {
            return BAD;
        }
        int n = hear(shelf, mesh);
        if (n < 0) {
            return n;
        }
        sieve.strain(saying, n, fineOf(mesh), 0);
        return what == 0 ? sieve.mostHarmLeftOf() : sieve.spite();
    }

    public long likely(int shelf, int mesh, int one, int part) {
        if (one < 0 || one > 5 || part < 0 || part > 1) {
            return REFUSED;
        }
        int n = hear(shelf, mesh);
        if (n < 0) {
            return REFUSED;
        }
        sieve.strain(saying, n, fineOf(mesh), 0);
        int of = sieve.harmLeftOf(one);
        int all = sieve.sumOf(sieve.left, sieve.leftCount, Stock.HARM);
        int common = greatestCommon(of, all);
        if (common == 0) {
            return part;
        }
        return part == 0 ? of / common : all / common;
    }

    public int game(int mesh, int what) {
        if (!isMesh(mesh) || what < 0 || what > 1) {
            return BAD;
        }
        int first = search.winningWord(fineOf(mesh));
        if (what == 1) {
            return first;
        }
        return first == NOT ? 0 : 1;
    }

    public int drawn(int seed, int nm, int mesh, int what) {
        if (nm < 0 || !isMesh(mesh) || what < 0 || what > 1) {
            return BAD;
        }
        int evenings = nm / 100;
        int sayings = nm % 100;
        if (evenings < 1 || evenings > 30 || sayings < 1 || sayings > 20) {
            return BAD;
        }
        return search.drawnEvenings(seed, evenings, sayings, fineOf(mesh), what == 1);
    }

    // ---- in deed

    public int speak(int shelf, int mesh) {
        if (!isMesh(mesh)) {
            return BAD;
        }
        int n = hear(shelf, mesh);
        if (n < 0) {
            return n;
        }
        sieve.strain(saying, n, fineOf(mesh), deeds.lyingIn(mesh));
        int harm = sieve.sumOf(sieve.left, sieve.leftCount, Stock.HARM);
        int hurts = Integer.bitCount(sieve.hurtBy(sieve.came, sieve.cameCount));
        deeds.noteSaying(mesh, sieve.cameCount, sieve.leftCount, harm, hurts);
        return sieve.cameCount;
    }

    public int rinse(int mesh) {
        return isMesh(mesh) ? deeds.rinseOut(mesh) : BAD;
    }

    public int led(int what) {
        return deeds.ledOf(what);
    }

    public int image() {
        return deeds.keepImage();
    }

    public int back() {
        return deeds.layBack();
    }

    public int undo() {
        return changes.stepBack(stock);
    }

    public int redo() {
        return changes.stepOn(stock);
    }

    // ---- acts, shelves

    public int body(int kind) {
        return kind < 0 || kind >= Leaves.KINDS ? BAD : leaves.keepBody(kind);
    }

    public int act(int body, int act, int x) {
        return leaves.actOf(body, act, x);
    }

    public int trace(int i) {
        return leaves.traceAt(i);
    }

    public int keep(int shelf, int body) {
        if (!isShelf(shelf) || body < -1 || body >= leaves.bodies) {
            return BAD;
        }
        shelves.hold(shelf, body);
        return 1;
    }

    public int row(int shelf, int sort, int n) {
        if (!isShelf(shelf) || sort < 0 || sort >= Shelves.SORTS || n > Shelves.LONGEST) {
            return BAD;
        }
        if (n < 0) {
            return SIZE_BELOW_0;
        }
        shelves.newRow(shelf, sort, n);
        return 1;
    }

    public int put(int shelf, int i, long v) {
        int refusal = elementRefusal(shelf, i);
        if (refusal != 0) {
            return refusal;
        }
        shelves.setAt(shelf, i, v);
        return 1;
    }

    public long element(int shelf, int i) {
        return elementRefusal(shelf, i) != 0 ? REFUSED : shelves.valueAt(shelf, i);
    }

    public int shift(int shelf, int i, int other, int j, int n) {
        if (!isShelf(shelf) || !isShelf(other)) {
            return BAD;
        }
        if (shelves.isEmpty(shelf) || shelves.isEmpty(other)) {
            return NOTHING_THERE;
        }
        if (!shelves.isRow(shelf) || !shelves.isAlike(shelf, other)) {
            return OTHER_KIND;
        }
        if (!shelves.hasRange(shelf, i, n) || !shelves.hasRange(other, j, n)) {
            return NO_PLACE;
        }
        shelves.copyRange(shelf, i, other, j, n);
        return n;
    }

    public int taken(int shelf, int k) {
        if (!isShelf(shelf) || k < 0 || k >= Leaves.KINDS) {
            return BAD;
        }
        if (shelves.isEmpty(shelf)) {
            return NOTHING_THERE;
        }
        int kind = leaves.kindOf(shelves.bodyOn(shelf));
        return leaves.isUnder(kind, k) ? kind : OTHER_KIND;
    }

    public int count(int what) {
        switch (what) {
            case 0: return stock.words;
            case 1: return stock.meshes;
            case 2: return stock.people;
            case 3: return law.fed;
            case 4: return changes.done;
            case 5: return leaves.bodies;
            case 6: return leaves.ran;
            default: return BAD;
        }
    }

    // ---- what the calls share

    private static boolean isShelf(int shelf) {
        return shelf >= 0 && shelf < SHELVES;
    }

    private boolean isMesh(int mesh) {
        return mesh >= 0 && mesh < stock.meshes;
    }

    private boolean isMeshOrNone(int mesh) {
        return mesh == Sieve.NONE || isMesh(mesh);
    }

    private int fineOf(int mesh) {
        return mesh == Sieve.NONE ? Sieve.NONE : stock.get(mesh, Stock.FINE);
    }

    /** Reads the SAYING on a shelf: how many words it has, or the refusal. */
    private int hear(int shelf, int mesh) {
        if (!isShelf(shelf) || !isMeshOrNone(mesh)) {
            return BAD;
        }
        int refusal = shelves.bytesRefusal(shelf);
        return refusal != 0 ? refusal : readSaying(shelf, saying);
    }

    private int readSaying(int shelf, int[] into) {
        int longest = Math.min(shelves.lengthOf(shelf), Math.min(SAYING, into.length));
        for (int at = 0; at < longest; at++) {
            long word = shelves.valueAt(shelf, at);
            if (word < 0 || word >= stock.words) {
                return at;
            }
            into[at] = (int) word;
        }
        return longest;
    }

    /** Why the two shelves told as 10 times one and the other are not two rows of bytes; 0: they are. */
    private int pairRefusal(int two) {
        if (two < 0 || !isShelf(two / 10) || !isShelf(two % 10)) {
            return BAD;
        }
        int one = shelves.bytesRefusal(two / 10);
        int other = shelves.bytesRefusal(two % 10);
        if (one == NOTHING_THERE || other == NOTHING_THERE) {
            return NOTHING_THERE;
        }
        return one != 0 ? one : other;
    }

    private int elementRefusal(int shelf, int i) {
        if (!isShelf(shelf)) {
            return BAD;
        }
        if (shelves.isEmpty(shelf)) {
            return NOTHING_THERE;
        }
        if (!shelves.isRow(shelf)) {
            return OTHER_KIND;
        }
        return i < 0 || i >= shelves.lengthOf(shelf) ? NO_PLACE : 0;
    }

    private boolean wordFromThree(int shelf, int at) {
        int size = (int) shelves.valueAt(shelf, at);
        int harm = (int) shelves.valueAt(shelf, at + 1);
        int sweet = (int) shelves.valueAt(shelf, at + 2);
        if (!stock.allows(Stock.SIZE, size) || !stock.allows(Stock.HARM, harm) || !stock.allows(Stock.SWEET, sweet)) {
            return false;
        }
        return stock.newWord(size, harm, sweet) != FULL;
    }

    private static int greatestCommon(int one, int other) {
        int a = one;
        int b = other;
        // the rests at least halve every second time, so no int needs as many steps
        for (int step = 0; step < 100 && b != 0; step++) {
            int rest = a % b;
            a = b;
            b = rest;
        }
        return a;
    }

    /** Words, meshes and people, as one row for each number that mend() tells. */
    private static final class Stock {
        static final int SIZE = 0, HARM = 1, SWEET = 2, SORT = 3, MEANT = 4, FINE = 5, THIN = 6, BENDS = 7;
        private static final int WHATS = 8, WORDS = 12, MESHES = 5, PEOPLE = 6;
        private static final int[] GREATEST = {9, 9, 9, 2, 5, 9, 9, 20};

        private final int[][] numbers;
        private int words;
        private int meshes;
        private int people;

        Stock() {
            numbers = new int[WHATS][WORDS];
            numbers[BENDS][0] = 12;
        }

        int newWord(int size, int harm, int sweet) {
            if (words >= WORDS) {
                return FULL;
            }
            int number = words;
            words++;
            set(number, SIZE, size);
            set(number, HARM, harm);
            set(number, SWEET, sweet);
            set(number, SORT, 2);
            return number;
        }

        int newMesh(int fine) {
            if (meshes >= MESHES) {
                return FULL;
            }
            int number = meshes;
            meshes++;
            set(number, FINE, fine);
            return number;
        }

        int newPerson(int thin) {
            if (people >= PEOPLE) {
                return FULL;
            }
            int number = people;
            people++;
            set(number, THIN, thin);
            return number;
        }

        boolean allows(int what, int v) {
            return what >= 0 && what < WHATS && v >= 0 && v <= GREATEST[what];
        }

        boolean has(int number, int what) {
            return what >= 0 && what < WHATS && number >= 0 && number < bearersOf(what);
        }

        private int bearersOf(int what) {
            switch (what) {
                case FINE: return meshes;
                case THIN: return people;
                case BENDS: return 1;
                default: return words;
            }
        }

        int get(int number, int what) {
            if (number < 0 || number >= WORDS || what < 0 || what >= WHATS) {
                return 0;
            }
            return numbers[what][number];
        }

        void set(int number, int what, int v) {
            if (has(number, what)) {
                numbers[what][number] = v;
            }
        }
    }

    /** The numbers that were mended, for going back and on again. */
    private static final class Changes {
        private static final int KEPT = 40;

        private final int[] numbers;
        private final int[] whats;
        private final int[] before;
        private final int[] after;
        private int done;
        private int undone;

        Changes() {
            numbers = new int[KEPT];
            whats = new int[KEPT];
            before = new int[KEPT];
            after = new int[KEPT];
        }

        void note(int number, int what, int was, int becomes) {
            undone = 0;
            if (done >= KEPT) {
                forgetOldest();
            }
            if (done < 0 || done >= KEPT) {
                return;
            }
            numbers[done] = number;
            whats[done] = what;
            before[done] = was;
            after[done] = becomes;
            done++;
        }

        private void forgetOldest() {
            for (int at = 1; at < KEPT; at++) {
                numbers[at - 1] = numbers[at];
                whats[at - 1] = whats[at];
                before[at - 1] = before[at];
                after[at - 1] = after[at];
            }
            done = KEPT - 1;
        }

        int stepBack(Stock stock) {
            if (done < 1 || done > KEPT) {
                return STATE;
            }
            done--;
            undone++;
            stock.set(numbers[done], whats[done], before[done]);
            return done;
        }

        int stepOn(Stock stock) {
            if (undone < 1 || done < 0 || done >= KEPT) {
                return STATE;
            }
            stock.set(numbers[done], whats[done], after[done]);
            done++;
            undone--;
            return undone;
        }
    }

    /** The tape, and the law that came of it: steps for a stack, so that no text is read twice. */
    private static final class Law {
        private static final int TAPE = 120, STEPS = 256, STACK = 64, MOST_OPEN = 6, FAULTS = -100;
        // a step from 0 on lays that number; -1 to -6 lay s, h, w, f, p, l; all others are signs below 0
        private static final int NAMES = 6, LEAST_NAME = -6, COMPARING = 2, LEVELS = 5;
        private static final int TEST = -'?', END = -';', NO = -'!', MINUS = -'~';

        private final int[] tape;
        private final int[] draft;
        private final int[] steps;
        private final int[] stack;
        private final int[] names;
        private int fed;
        private int drafted;
        private int stepCount;
        private int at;
        private boolean faulty;

        Law() {
            tape = new int[TAPE];
            draft = new int[STEPS];
            steps = new int[STEPS];
            stack = new int[STACK];
            names = new int[NAMES];
        }

        int take(int letter) {
            if (fed < 0 || fed >= TAPE) {
                return FULL;
            }
            tape[fed] = letter;
            fed++;
            return fed;
        }

        int becomeTape() {
            at = 0;
            drafted = 0;
            faulty = false;
            readLines();
            fed = 0;
            if (faulty) {
                return FAULTS - at;
            }
            for (int step = 0; step < drafted && step < STEPS; step++) {
                steps[step] = draft[step];
            }
            stepCount = drafted;
            return 1;
        }

        private void readLines() {
            for (int line = 0; line < TAPE; line++) {
                readLine();
                if (faulty || at >= fed) {
                    return;
                }
                if (nextByte() != ';') {
                    faulty = true;
                    return;
                }
                at++;
            }
        }

        private void readLine() {
            readLevel(0, 0);
            if (faulty || nextByte() != '?') {
                addStep(END);
                return;
            }
            at++;
            addStep(TEST);
            int target = drafted;
            addStep(0);
            readLevel(0, 0);
            addStep(END);
            if (target >= 0 && target < STEPS) {
                draft[target] = drafted;
            }
        }

        /** Level 0 is |, 1 &, 2 < = >, 3 + -, 4 * / %; below them all stand the operands. */
        private void readLevel(int level, int open) {
            if (level >= LEVELS) {
                readOperand(open);
                return;
            }
            readLevel(level + 1, open);
            int most = level == COMPARING ? 1 : TAPE;
            for (int times = 0; times < most && !faulty && levelOf(nextByte()) == level; times++) {
                int sign = nextByte();
                at++;
                readLevel(level + 1, open);
                addStep(-sign);
            }
        }

        private void readOperand(int open) {
            int sign = nextByte();
            if (isDigit(sign)) {
                readNumber();
            } else if (nameOf(sign) < 0) {
                at++;
                addStep(nameOf(sign));
            } else if (open >= MOST_OPEN) {
                faulty = true;
            } else if (sign == '!' || sign == '-') {
                at++;
                readOperand(open + 1);
                addStep(sign == '!' ? NO : MINUS);
            } else if (sign == '(') {
                at++;
                readLevel(0, open + 1);
                closeBracket();
            } else {
                faulty = true;
            }
        }

        private void closeBracket() {
            if (faulty) {
                return;
            }
            if (nextByte() == ')') {
                at++;
            } else {
                faulty = true;
            }
        }

        private void readNumber() {
            int number = 0;
            for (int digits = 0; digits < 4 && isDigit(nextByte()); digits++) {
                number = number * 10 + nextByte() - '0';
                at++;
            }
            addStep(number);
        }

        private int nextByte() {
            return at >= 0 && at < fed && at < TAPE ? tape[at] : -1;
        }

        private void addStep(int step) {
            if (!faulty && drafted >= 0 && drafted < STEPS) {
                draft[drafted] = step;
                drafted++;
            }
        }

        private static boolean isDigit(int sign) {
            return sign >= '0' && sign <= '9';
        }

        private static int levelOf(int sign) {
            switch (sign) {
                case '|': return 0;
                case '&': return 1;
                case '<': case '=': case '>': return COMPARING;
                case '+': case '-': return 3;
                case '*': case '/': case '%': return 4;
                default: return -1;
            }
        }

        private static int nameOf(int sign) {
            switch (sign) {
                case 's': return -1;
                case 'h': return -2;
                case 'w': return -3;
                case 'f': return -4;
                case 'p': return -5;
                case 'l': return LEAST_NAME;
                default: return 0;
            }
        }

        boolean isTold() {
            return stepCount > 0;
        }

        int worth(int size, int harm, int sweet, int fine, int place, int left) {
            names[0] = size;
            names[1] = harm;
            names[2] = sweet;
            names[3] = fine;
            names[4] = place;
            names[5] = left;
            int top = 0;
            int next = 0;
            for (int turn = 0; turn < STEPS && next >= 0 && next < stepCount && next < STEPS; turn++) {
                int step = steps[next];
                next++;
                if (step >= LEAST_NAME) {
                    if (top >= STACK) {
                        return 0;
                    }
                    stack[top] = step >= 0 ? step : names[-1 - step];
                    top++;
                } else if (top < 1 || top > STACK) {
                    return 0;
                } else if (step == END) {
                    return stack[top - 1];
                } else if (step == TEST) {
                    top--;
                    next = stack[top] != 0 || next >= STEPS ? next + 1 : steps[next];
                } else if (step == NO) {
                    stack[top - 1] = stack[top - 1] == 0 ? 1 : 0;
                } else if (step == MINUS) {
                    stack[top - 1] = -stack[top - 1];
                } else if (top >= 2) {
                    top--;
                    stack[top - 1] = joined(-step, stack[top - 1], stack[top]);
                }
            }
            return 0;
        }

        private static int joined(int sign, int a, int b) {
            switch (sign) {
                case '|': return a != 0 || b != 0 ? 1 : 0;
                case '&': return a != 0 && b != 0 ? 1 : 0;
                case '<': return a < b ? 1 : 0;
                case '=': return a == b ? 1 : 0;
                case '>': return a > b ? 1 : 0;
                case '+': return a + b;
                case '-': return a - b;
                case '*': return a * b;
                case '/': return b == 0 ? 0 : a / b;
                default: return b == 0 ? 0 : a % b;
            }
        }
    }

    /** Shelves that hold nothing, a body, or a row. */
    private static final class Shelves {
        static final int SORTS = 5, LONGEST = 60;
        private static final int NOTHING = -1, A_BODY = -2;
        private static final int BYTES = 0, SHORTS = 1, INTS = 2, LONGS = 3;

        private final int[] holds;
        private final int[] body;
        private final int[] length;
        private final long[][] rows;

        Shelves() {
            holds = new int[SHELVES];
            body = new int[SHELVES];
            length = new int[SHELVES];
            rows = new long[SHELVES][LONGEST];
            for (int shelf = 0; shelf < SHELVES; shelf++) {
                holds[shelf] = NOTHING;
            }
        }

        private int heldOn(int shelf) {
            return isShelf(shelf) ? holds[shelf] : NOTHING;
        }

        boolean isEmpty(int shelf) {
            return heldOn(shelf) == NOTHING;
        }

        boolean isRow(int shelf) {
            return heldOn(shelf) >= 0;
        }

        boolean isAlike(int shelf, int other) {
            return heldOn(shelf) == heldOn(other);
        }

        /** 0, if there is a row of bytes. */
        int bytesRefusal(int shelf) {
            if (isEmpty(shelf)) {
                return NOTHING_THERE;
            }
            return heldOn(shelf) == BYTES ? 0 : OTHER_KIND;
        }

        int lengthOf(int shelf) {
            return isShelf(shelf) ? length[shelf] : 0;
        }

        int bodyOn(int shelf) {
            return heldOn(shelf) == A_BODY ? body[shelf] : -1;
        }

        boolean hasRange(int shelf, int from, int n) {
            // from is held against the rest, as the sum of two ints might wrap
            return from >= 0 && n >= 0 && n <= lengthOf(shelf) && from <= lengthOf(shelf) - n;
        }

        void hold(int shelf, int number) {
            if (isShelf(shelf)) {
                holds[shelf] = number < 0 ? NOTHING : A_BODY;
                body[shelf] = number;
                // so that the length alone tells which places there are
                length[shelf] = 0;
            }
        }

        void newRow(int shelf, int sort, int n) {
            if (!isShelf(shelf)) {
                return;
            }
            holds[shelf] = sort;
            length[shelf] = n;
            for (int at = 0; at < LONGEST; at++) {
                rows[shelf][at] = 0;
            }
        }

        long valueAt(int shelf, int at) {
            return hasRange(shelf, at, 1) && at < LONGEST ? rows[shelf][at] : 0;
        }

        void setAt(int shelf, int at, long v) {
            if (hasRange(shelf, at, 1) && at < LONGEST) {
                rows[shelf][at] = lowestBits(holds[shelf], v);
            }
        }

        private static long lowestBits(int sort, long v) {
            switch (sort) {
                case BYTES: return (byte) v;
                case SHORTS: return (short) v;
                case INTS: return (int) v;
                case LONGS: return v;
                default: return v != 0 ? 1 : 0;
            }
        }

        void copyRange(int shelf, int from, int other, int to, int n) {
            if (isRow(shelf) && isRow(other) && hasRange(shelf, from, n) && hasRange(other, to, n)) {
                System.arraycopy(rows[shelf], from, rows[other], to, n);
            }
        }
    }

    /** A saying through a mesh: what came of it and what was left, and what is to be said of both. */
    private static final class Sieve {
        static final int NONE = -1;
        private static final int LONGEST = 13, MEANT = 6;

        private final Stock stock;
        private final Law law;
        private final int[] came;
        private final int[] left;
        private final int[] net;
        private int cameCount;
        private int leftCount;

        Sieve(Stock stock, Law law) {
            this.stock = stock;
            this.law = law;
            // one more than a saying has, for a word that is said between
            came = new int[LONGEST];
            left = new int[LONGEST];
            net = new int[MEANT];
        }

        /** The fineness NONE stands for no mesh, by which all passes. */
        boolean passes(int word, int fine, int place, int lying) {
            if (fine == NONE) {
                return true;
            }
            int size = stock.get(word, Stock.SIZE);
            int harm = stock.get(word, Stock.HARM);
            if (!law.isTold()) {
                return size + harm <= stock.get(0, Stock.BENDS) - fine;
            }
            return law.worth(size, harm, stock.get(word, Stock.SWEET), fine, place, lying) > 0;
        }

        void strain(int[] words, int n, int fine, int lying) {
            cameCount = 0;
            leftCount = 0;
            for (int place = 0; place < n && place < words.length && place < LONGEST; place++) {
                int word = words[place];
                if (passes(word, fine, place, lying + leftCount)) {
                    came[cameCount] = word;
                    cameCount++;
                } else {
                    left[leftCount] = word;
                    leftCount++;
                }
            }
        }

        int copyCame(int[] into) {
            int n = Math.min(cameCount, into.length);
            for (int at = 0; at < n; at++) {
                into[at] = came[at];
            }
            return n;
        }

        boolean cameJust(int[] words, int n) {
            if (n != cameCount || n > words.length) {
                return false;
            }
            for (int at = 0; at < n; at++) {
                if (words[at] != came[at]) {
                    return false;
                }
            }
            return true;
        }

        boolean makesSense(int[] words, int n) {
            if (n < 2 || n > words.length) {
                return false;
            }
            for (int at = 0; at < n; at++) {
                if (!fitsAt(words[at], at)) {
                    return false;
                }
            }
            return true;
        }

        /** Whether a word is of the sort that makes sense at a place. */
        boolean fitsAt(int word, int place) {
            return stock.get(word, Stock.SORT) == Math.min(place, 2);
        }

        int sumOf(int[] words, int n, int what) {
            int sum = 0;
            for (int at = 0; at < n && at < words.length; at++) {
                sum += stock.get(words[at], what);
            }
            return sum;
        }

        int hurtBy(int[] words, int n) {
            clearNet();
            for (int at = 0; at < n && at < words.length; at++) {
                addToNet(words[at]);
            }
            return hurtByNet();
        }

        int hurtBySet(int set) {
            clearNet();
            for (int word = 0; word < stock.words; word++) {
                if ((set >> word & 1) != 0) {
                    addToNet(word);
                }
            }
            return hurtByNet();
        }

        private void clearNet() {
            for (int one = 0; one < MEANT; one++) {
                net[one] = 0;
            }
        }

        private void addToNet(int word) {
            int one = stock.get(word, Stock.MEANT);
            if (one >= 0 && one < MEANT) {
                net[one] += stock.get(word, Stock.HARM) - stock.get(word, Stock.SWEET);
            }
        }

        private int hurtByNet() {
            int bits = 0;
            for (int one = 0; one < stock.people && one < MEANT; one++) {
                if (net[one] > 9 - stock.get(one, Stock.THIN)) {
                    bits |= 1 << one;
                }
            }
            return bits;
        }

        boolean keepsJust(int set, int fine) {
            for (int word = 0; word < stock.words; word++) {
                boolean kept = (set >> word & 1) != 0;
                if (passes(word, fine, 0, 0) == kept) {
                    return false;
                }
            }
            return true;
        }

        int harmLeftOf(int one) {
            int harm = 0;
            for (int at = 0; at < leftCount && at < LONGEST; at++) {
                if (stock.get(left[at], Stock.MEANT) == one) {
                    harm += stock.get(left[at], Stock.HARM);
                }
            }
            return harm;
        }

        int mostHarmLeftOf() {
            int who = NOT;
            int most = 0;
            for (int one = 0; one < MEANT; one++) {
                int harm = harmLeftOf(one);
                if (harm > most) {
                    most = harm;
                    who = one;
                }
            }
            return who;
        }

        int spite() {
            int bits = 0;
            for (int one = 0; one < MEANT; one++) {
                if (harmLeftOf(one) > 0 && !somethingCameOf(one)) {
                    bits |= 1 << one;
                }
            }
            return bits;
        }

        private boolean somethingCameOf(int one) {
            for (int at = 0; at < cameCount && at < LONGEST; at++) {
                if (stock.get(came[at], Stock.MEANT) == one) {
                    return true;
                }
            }
            return false;
        }
    }

    /** What is looked for among many sayings. */
    private static final class Search {
        private static final int LONGEST_SAY = 10, NEVER = 100, SIDE = 13, PLAYED = 10, DRAWN = 4;

        private final Stock stock;
        private final Sieve sieve;
        private final int[] found;
        private final int[] trial;
        private final int[] before;
        private final int[][] needed;
        private final long[][] ways;
        private final int[] passing;
        private final boolean[] wins;

        Search(Stock stock, Sieve sieve) {
            this.stock = stock;
            this.sieve = sieve;
            found = new int[SIDE];
            trial = new int[SIDE];
            before = new int[SIDE];
            needed = new int[LONGEST_SAY + 1][LONGEST_SAY + 1];
            ways = new long[SIDE][SIDE];
            passing = new int[PLAYED + 1];
            wins = new boolean[1 << PLAYED];
        }

        int foundAt(int k) {
            return k >= 0 && k < SIDE ? found[k] : NOT;
        }

        /** Lays the first of the shortest sayings into found: its length, or NOT. */
        int shortestSaying(int[] told, int n, int fine) {
            if (n > LONGEST_SAY || n > told.length) {
                return NOT;
            }
            for (int place = LONGEST_SAY; place >= 0; place--) {
                for (int come = Math.min(place, n); come >= 0; come--) {
                    needed[place][come] = neededFrom(place, come, told, n, fine);
                }
            }
            int length = needed[0][0];
            if (length >= NEVER) {
                return NOT;
            }
            int come = 0;
            for (int place = 0; place < length && place < LONGEST_SAY; place++) {
                int word = firstStep(place, come, told, n, fine);
                found[place] = word;
                if (sieve.passes(word, fine, place, place - come)) {
                    come++;
                }
            }
            return length;
        }

        /** How many words must still be said at a place, when so many of those told have come. */
        private int neededFrom(int place, int come, int[] told, int n, int fine) {
            if (come == n && place >= 2) {
                return 0;
            }
            int least = NEVER;
            for (int word = 0; word < stock.words; word++) {
                least = Math.min(least, neededWith(word, place, come, told, n, fine));
            }
            return least;
        }

        private int firstStep(int place, int come, int[] told, int n, int fine) {
            if (place < 0 || place > LONGEST_SAY || come < 0 || come > LONGEST_SAY) {
                return NOT;
            }
            for (int word = 0; word < stock.words; word++) {
                if (neededWith(word, place, come, told, n, fine) == needed[place][come]) {
                    return word;
                }
            }
            return NOT;
        }

        private int neededWith(int word, int place, int come, int[] told, int n, int fine) {
            if (place < 0 || place >= LONGEST_SAY || come < 0 || come > place || !sieve.fitsAt(word, place)) {
                return NEVER;
            }
            if (!sieve.passes(word, fine, place, place - come)) {
                return needed[place + 1][come] + 1;
            }
            if (come >= n || come >= told.length || told[come] != word) {
                return NEVER;
            }
            return needed[place + 1][come + 1] + 1;
        }

        /** The greatest set of words that hurts nobody; of as great ones the least. */
        int greatestHarmlessSet() {
            int best = 0;
            int most = 0;
            int sets = 1 << stock.words;
            for (int set = 1; set < sets; set++) {
                int size = Integer.bitCount(set);
                if (size > most && sieve.hurtBySet(set) == 0) {
                    best = set;
                    most = size;
                }
            }
            return best;
        }

        /** In how many orders what came and what was left may have been said; ways keeps them from each point on. */
        long mergings(int[] came, int cameCount, int[] left, int leftCount, int fine) {
            if (cameCount + leftCount > SAYING || cameCount > came.length || leftCount > left.length) {
                return 0;
            }
            for (int c = cameCount; c >= 0; c--) {
                for (int l = leftCount; l >= 0; l--) {
                    long sum = c == cameCount && l == leftCount ? 1 : 0;
                    if (c < cameCount && sieve.passes(came[c], fine, c + l, l)) {
                        sum += ways[c + 1][l];
                    }
                    if (l < leftCount && !sieve.passes(left[l], fine, c + l, l)) {
                        sum += ways[c][l + 1];
                    }
                    ways[c][l] = sum;
                }
            }
            return ways[0][0];
        }

        /** Lays the first order by numbers into found; mergings() of the same must have gone ahead. */
        void firstMerging(int[] came, int cameCount, int[] left, int leftCount, int fine) {
            int c = 0;
            int l = 0;
            for (int place = 0; place < SAYING && place < cameCount + leftCount; place++) {
                boolean comes = c < cameCount && c < came.length && ways[c + 1][l] > 0
                        && sieve.passes(came[c], fine, place, l);
                boolean stays = l < leftCount && l < left.length && ways[c][l + 1] > 0
                        && !sieve.passes(left[l], fine, place, l);
                if (comes && (!stays || came[c] < left[l])) {
                    found[place] = came[c];
                    c++;
                } else if (stays) {
                    found[place] = left[l];
                    l++;
                } else {
                    return;
                }
            }
        }

        /** How many sayings there are of which these come and so many of any words are left. */
        long sayingsWithLeft(int[] came, int cameCount, int leftCount, int fine) {
            if (cameCount + leftCount > SAYING || cameCount > came.length) {
                return 0;
            }
            for (int c = cameCount; c >= 0; c--) {
                for (int l = leftCount; l >= 0; l--) {
                    long sum = c == cameCount && l == leftCount ? 1 : 0;
                    if (c < cameCount && sieve.passes(came[c], fine, c + l, l)) {
                        sum += ways[c + 1][l];
                    }
                    if (l < leftCount) {
                        sum += ways[c][l + 1] * wordsLeftAt(fine, c + l, l);
                    }
                    ways[c][l] = sum;
                }
            }
            return ways[0][0];
        }

        private int wordsLeftAt(int fine, int place, int lying) {
            int many = 0;
            for (int word = 0; word < stock.words; word++) {
                if (!sieve.passes(word, fine, place, lying)) {
                    many++;
                }
            }
            return many;
        }

        /** Which words, said behind the k-th, would be left without a change of what comes. */
        int unheardBehind(int[] words, int n, int k, int fine) {
            if (n < 0 || n > SAYING || n > words.length || k < 0 || k > n) {
                return 0;
            }
            sieve.strain(words, n, fine, 0);
            int comes = sieve.copyCame(before);
            sieve.strain(words, k, fine, 0);
            int lying = sieve.leftCount;
            for (int at = 0; at < n; at++) {
                trial[at < k ? at : at + 1] = words[at];
            }
            int bits = 0;
            for (int word = 0; word < stock.words; word++) {
                if (!sieve.passes(word, fine, k, lying)) {
                    trial[k] = word;
                    sieve.strain(trial, n + 1, fine, 0);
                    bits |= sieve.cameJust(before, comes) ? 1 << word : 0;
                }
            }
            return bits;
        }

        /** The least word with which who begins wins, or NOT; wins tells it for each set of words said. */
        int winningWord(int fine) {
            int playable = Math.min(stock.words, PLAYED);
            for (int place = 0; place <= PLAYED; place++) {
                passing[place] = 0;
                for (int word = 0; word < playable; word++) {
                    passing[place] |= sieve.passes(word, fine, place, 0) ? 1 << word : 0;
                }
            }
            int first = NOT;
            for (int set = (1 << playable) - 1; set >= 0; set--) {
                first = winningFrom(set, playable);
                wins[set] = first != NOT;
            }
            return first;
        }

        private int winningFrom(int set, int playable) {
            int open = passing[Math.min(Integer.bitCount(set), PLAYED)] & ~set;
            for (int word = 0; word < playable; word++) {
                int next = set | 1 << word;
                if ((open >> word & 1) != 0 && next >= 0 && next < wins.length && !wins[next]) {
                    return word;
                }
            }
            return NOT;
        }

        /** Words left in all evenings, or, if so asked, how many sayings hurt somebody. */
        int drawnEvenings(int seed, int evenings, int sayings, int fine, boolean askHurts) {
            if (stock.words < 1) {
                return 0;
            }
            int z = seed;
            int left = 0;
            int hurts = 0;
            for (int evening = 0; evening < evenings; evening++) {
                int lying = 0;
                for (int saying = 0; saying < sayings; saying++) {
                    for (int at = 0; at < DRAWN; at++) {
                        z = z * 1103515245 + 12345;
                        trial[at] = (z >>> 10) % stock.words;
                    }
                    sieve.strain(trial, DRAWN, fine, lying);
                    lying += sieve.leftCount;
                    if (askHurts && sieve.hurtBy(sieve.came, sieve.cameCount) != 0) {
                        hurts++;
                    }
                }
                left += lying;
            }
            return askHurts ? hurts : left;
        }
    }

    /** What was said and rinsed in deed, and the image of it. */
    private static final class Deeds {
        private static final int MESHES = 5, LED = 6;
        private static final int SAYINGS = 0, CAME = 1, LEFT = 2, HURTS = 3, RINSINGS = 4, RINSED = 5;

        private final int[] lying;
        private final int[] harm;
        private final int[] told;
        private final int[] imageLying;
        private final int[] imageHarm;
        private final int[] imageTold;
        private boolean hasImage;

        Deeds() {
            lying = new int[MESHES];
            harm = new int[MESHES];
            told = new int[LED];
            imageLying = new int[MESHES];
            imageHarm = new int[MESHES];
            imageTold = new int[LED];
        }

        int lyingIn(int mesh) {
            return mesh >= 0 && mesh < MESHES ? lying[mesh] : 0;
        }

        int harmIn(int mesh) {
            return mesh >= 0 && mesh < MESHES ? harm[mesh] : 0;
        }

        int ledOf(int what) {
            return what >= 0 && what < LED ? told[what] : BAD;
        }

        void noteSaying(int mesh, int came, int left, int harmLeft, int hurts) {
            if (mesh < 0 || mesh >= MESHES) {
                return;
            }
            lying[mesh] += left;
            harm[mesh] += harmLeft;
            told[SAYINGS]++;
            told[CAME] += came;
            told[LEFT] += left;
            told[HURTS] += hurts;
        }

        int rinseOut(int mesh) {
            if (mesh < 0 || mesh >= MESHES) {
                return BAD;
            }
            int lay = lying[mesh];
            told[RINSINGS]++;
            told[RINSED] += harm[mesh];
            lying[mesh] = 0;
            harm[mesh] = 0;
            return lay;
        }

        int keepImage() {
            System.arraycopy(lying, 0, imageLying, 0, MESHES);
            System.arraycopy(harm, 0, imageHarm, 0, MESHES);
            System.arraycopy(told, 0, imageTold, 0, LED);
            hasImage = true;
            return told[SAYINGS];
        }

        int layBack() {
            if (!hasImage) {
                return STATE;
            }
            // meshes that came since lay empty in the image, for nothing could be said through them
            System.arraycopy(imageLying, 0, lying, 0, MESHES);
            System.arraycopy(imageHarm, 0, harm, 0, MESHES);
            System.arraycopy(imageTold, 0, told, 0, LED);
            return told[SAYINGS];
        }
    }

    /** Bodies of kinds, and their acts, which come from the kind itself or from above. */
    private static final class Leaves {
        static final int KINDS = 8;
        private static final int BODIES = 50, ACTS = 4, TRACED = 24, DEEPEST = 40;
        private static final int PASSES = 0, STAYS = 1, HURTS = 2, TELLS = 3;
        private static final int LEAF = 0, BARB = 2, COMPLIMENT = 3, MAID = 6, TEA = 1;
        private static final int[] ABOVE = {-1, 0, 0, 2, 1, 3, 0, 6};
        // for each kind its own bodies of passes, stays, hurts, tells; 0: it has none
        private static final int[] OWN = {
            1, 10, 11, 2,
            20, 0, 0, 0,
            0, 30, 0, 0,
            0, 41, 40, 0,
            0, 0, 0, 50,
            0, 0, 60, 61,
            70, 0, 0, 0,
            81, 80, 0, 0,
        };

        private final int[] kinds;
        private final int[] traced;
        private int bodies;
        private int ran;
        private int number;
        private int kind;

        Leaves() {
            kinds = new int[BODIES];
            traced = new int[TRACED];
        }

        int keepBody(int ofKind) {
            if (bodies >= BODIES) {
                return FULL;
            }
            kinds[bodies] = ofKind;
            bodies++;
            return bodies - 1;
        }

        int kindOf(int body) {
            return body >= 0 && body < bodies && body < BODIES ? kinds[body] : -1;
        }

        boolean isUnder(int lower, int upper) {
            int at = lower;
            for (int step = 0; step < KINDS && at >= 0 && at < KINDS; step++) {
                if (at == upper) {
                    return true;
                }
                at = ABOVE[at];
            }
            return false;
        }

        int traceAt(int i) {
            return i >= 0 && i < ran && i < TRACED ? traced[i] : BAD;
        }

        int actOf(int body, int act, int x) {
            ran = 0;
            if (body < 0 || body >= bodies || act < 0 || act >= ACTS) {
                return 0;
            }
            number = body;
            kind = kindOf(body);
            return run(act, kind, x, 0);
        }

        private static int bodyFrom(int act, int from) {
            int at = from;
            for (int step = 0; step < KINDS && at >= 0 && at < KINDS; step++) {
                int place = at * ACTS + act;
                if (place >= 0 && place < OWN.length && OWN[place] != 0) {
                    return OWN[place];
                }
                at = ABOVE[at];
            }
            return 0;
        }

        private void noteBody(int body) {
            if (ran >= 0 && ran < TRACED) {
                traced[ran] = body;
            }
            ran++;
        }

        /** Runs the body of an act that the kind from, or the next one above it, has. */
        private int run(int act, int from, int x, int depth) {
            if (depth >= DEEPEST) {
                return 0;
            }
            int body = bodyFrom(act, from);
            noteBody(body);
            return answerOf(body, x, depth + 1);
        }

        private int answerOf(int body, int x, int deeper) {
            switch (body) {
                case 1: return x + number;
                case 2: return run(STAYS, kind, x, deeper) - run(HURTS, kind, 1, deeper);
                case 10: return run(PASSES, kind, x, deeper) * 2;
                case 11: return x ^ number;
                case 20: return run(PASSES, LEAF, x, deeper) + 3;
                case 30: return -run(STAYS, LEAF, x, deeper);
                case 40: return run(HURTS, BARB, x, deeper) * 3;
                case 41: return run(STAYS, BARB, x + 1, deeper);
                case 50: return run(TELLS, TEA, x, deeper) ^ 5;
                case 60: return run(HURTS, COMPLIMENT, x, deeper) - run(PASSES, kind, 2, deeper);
                case 61: return run(TELLS, COMPLIMENT, x, deeper) + 1;
                case 70: return run(PASSES, LEAF, x, deeper) * 2;
                case 80: return run(STAYS, MAID, x, deeper) + run(HURTS, kind, 2, deeper);
                case 81: return run(PASSES, MAID, x, deeper) - 1;
                default: return 0;
            }
        }
    }
}
