/** What is refused changes nothing, and of several refusals the one named first is answered: calls of all promises. */
final class RefusalBoundaries extends Sentences {
    private static final String CHANGES_NOTHING = "What is answered so changes nothing.";
    private static final String NAMED_FIRST =
        "Answers, of several the one named first: BAD (-1): no such number, or it is not as said; NOT (-2): as told; FULL (-3); STATE (-5): as told; -11 to -14.";

    interface Calls {
        void on(TalkStrainer x);
    }

    // ---- what is refused changes nothing

    /** Something of all: words, meshes, people, a law, half a tape, deeds, an image, changes to undo and to do again, bodies, shelves. */
    private static TalkStrainer something() {
        TalkStrainer x = sizes(3, "s+l>1");
        x.mesh(3);
        x.person(9);
        x.mend(0, 1, 5);
        x.mend(1, 1, 6);
        x.mend(2, 1, 7);
        lay(x, 0, 0, 1, 2, 9);
        x.speak(0, 0);
        x.image();
        x.speak(0, 1);
        x.rinse(0);
        x.undo();
        x.undo();
        x.body(5);
        x.body(7);
        x.keep(1, 1);
        x.row(2, 3, 3);
        x.put(2, 1, Long.MAX_VALUE);
        x.row(3, 4, 2);
        x.put(3, 1, 1);
        x.act(1, 3, 4);
        x.feed('s');
        x.feed('>');
        return x;
    }

    /** All that x answers, the hidden things last: what the tape says, what can be done again and undone, the image. */
    private static String state(TalkStrainer x) {
        StringBuilder answers = new StringBuilder();
        told(x, answers);
        for (int i = 0; i <= 10; i++) {
            answers.append(x.trace(i)).append(' ');
        }
        for (int shelf = 0; shelf <= 4; shelf++) {
            answers.append(x.taken(shelf, 0)).append(' ');
            for (int i = 0; i <= 4; i++) {
                answers.append(x.element(shelf, i)).append(' ');
            }
        }
        law(x, answers);
        x.feed('1');
        answers.append(x.law()).append(' ');
        law(x, answers);
        answers.append(x.back()).append(' ');
        deeds(x, answers);
        answers.append(x.redo()).append(' ').append(x.redo()).append(' ').append(x.redo()).append(' ');
        told(x, answers);
        for (int n = 0; n < 4; n++) {
            answers.append(x.undo()).append(' ');
        }
        for (int word = 0; word <= 3; word++) {
            answers.append(x.of(word, 1)).append(' ');
        }
        return answers.toString();
    }

    private static void told(TalkStrainer x, StringBuilder answers) {
        for (int what = 0; what <= 6; what++) {
            answers.append(x.count(what)).append(' ');
        }
        for (int word = 0; word <= 3; word++) {
            for (int what = 0; what <= 4; what++) {
                answers.append(x.of(word, what)).append(' ');
            }
        }
        answers.append(x.of(0, 6)).append(' ').append(x.of(1, 6)).append(' ').append(x.of(0, 7)).append(' ');
        deeds(x, answers);
    }

    private static void deeds(TalkStrainer x, StringBuilder answers) {
        for (int mesh = 0; mesh <= 2; mesh++) {
            answers.append(x.of(mesh, 5)).append(' ').append(x.of(mesh, 8)).append(' ').append(x.of(mesh, 9)).append(' ');
        }
        for (int what = 0; what <= 5; what++) {
            answers.append(x.led(what)).append(' ');
        }
    }

    private static void law(TalkStrainer x, StringBuilder answers) {
        for (int word = 0; word <= 2; word++) {
            answers.append(x.lets(10 * word, 0)).append(x.lets(10 * word, 1)).append(' ');
        }
    }

    private static void changesNothing(int promise, Calls refused) {
        sentence(promise, CHANGES_NOTHING);
        TalkStrainer x = something();
        refused.on(x);
        same(state(x), state(something()));
    }

    static void refusedWords() {
        changesNothing(2, x -> {
            due(x.word(10, 0), BAD);
            due(x.word(0, -1), BAD);
        });
        changesNothing(3, x -> {
            due(x.words(0, 0, 0), BAD);
            due(x.words(0, 0, 13), BAD);
            due(x.words(6, 0, 1), BAD);
            due(x.words(1, 0, 1), OTHER_KIND);
            due(x.words(2, 0, 1), OTHER_KIND);
            due(x.words(5, 0, 1), 0);
            due(x.words(0, -1, 1), 0);
            due(x.words(0, 2, 1), 0);
        });
        changesNothing(4, x -> {
            due(x.mesh(10), BAD);
            due(x.mesh(-1), BAD);
        });
        changesNothing(5, x -> {
            due(x.person(10), BAD);
            due(x.person(-1), BAD);
        });
    }

    static void refusedMends() {
        changesNothing(6, x -> {
            due(x.mend(0, 0, 10), BAD);
            due(x.mend(3, 0, 1), BAD);
            due(x.mend(0, 8, 1), BAD);
            due(x.mend(0, 7, 21), BAD);
            due(x.mend(1, 7, 1), BAD);
            due(x.mend(0, 0, 0), 0);
        });
        changesNothing(7, x -> {
            due(x.of(3, 0), BAD);
            due(x.of(0, 10), BAD);
            due(x.of(2, 8), BAD);
        });
        changesNothing(8, x -> {
            due(x.feed(-1), BAD);
            due(x.feed(256), BAD);
        });
        changesNothing(10, x -> {
            due(x.lets(30, 0), BAD);
            due(x.lets(0, 10000), BAD);
        });
    }

    static void whatIsFullChangesNothing() {
        sentence(2, CHANGES_NOTHING);
        TalkStrainer x = sizes(12, "");
        x.row(0, 0, 3);
        due(x.word(9, 9), FULL);
        due(x.words(0, 0, 1), 0);
        for (int n = 0; n < 12; n++) {
            due(x.of(n, 0), n % 10);
            due(x.of(n, 1), 0);
        }
        due(x.count(0), 12);
        sentence(8, CHANGES_NOTHING);
        TalkStrainer y = sizes(1, "");
        for (int n = 0; n < 119; n++) {
            y.feed(n % 2 == 0 ? '0' : '+');
        }
        y.feed('+');
        due(y.feed('1'), FULL);
        due(y.count(3), 120);
        due(y.law(), -220);
        sentence(35, CHANGES_NOTHING);
        TalkStrainer z = new TalkStrainer();
        for (int n = 0; n < 50; n++) {
            z.body(n % 8);
        }
        due(z.body(0), FULL);
        due(z.count(5), 50);
        z.keep(0, 49);
        due(z.taken(0, 0), 1);
    }

    static void refusedSayings() {
        changesNothing(11, x -> {
            due(x.through(5, 0, 0), NOTHING_THERE);
            due(x.through(2, 0, 0), OTHER_KIND);
            due(x.nth(0, 0, 9, 0), NOT);
            due(x.nth(0, 2, 0, 0), BAD);
            due(x.several(5, 0), NOTHING_THERE);
            due(x.say(0, 0, -2), BAD);
            due(x.finest(2), OTHER_KIND);
            due(x.keeps(4096), BAD);
            due(x.leastLost(5), NOTHING_THERE);
            due(x.most(2), BAD);
        });
        changesNothing(19, x -> {
            due(x.said(5, 0), REFUSED);
            due(x.saidAt(0, 0, -1), BAD);
            due(x.saidAt(0, 0, 60), NOT);
            due(x.alone(0, 0, 5), REFUSED);
            due(x.howFine(0, 2), BAD);
            due(x.between(0, 0, 4), NOT);
            due(x.meant(0, 2, 0), BAD);
            due(x.likely(0, 0, 6, 0), REFUSED);
            due(x.game(2, 0), BAD);
            due(x.drawn(0, 0, 0, 0), BAD);
        });
    }

    static void thoughtsChangeNothing() {
        sentence(11, "IN THOUGHT, a SAYING through a MESH");
        TalkStrainer x = something();
        x.through(0, 0, 1);
        x.nth(0, 0, 0, 1);
        x.several(0, 1);
        x.say(0, 0, -1);
        x.finest(0);
        x.keeps(1);
        x.leastLost(0);
        x.most(1);
        x.said(0, 0);
        x.saidAt(0, 0, 0);
        x.alone(0, 0, 4);
        x.howFine(0, 1);
        x.between(0, 0, 1);
        x.meant(0, 0, 1);
        x.likely(0, 0, 0, 1);
        x.game(0, 1);
        x.drawn(1, 3020, 0, 0);
        due(x.led(0), 2);
        due(x.of(1, 8), 1);
        TalkStrainer y = something();
        same(state(x), state(y));
    }

    static void refusedDeeds() {
        changesNothing(28, x -> {
            due(x.speak(0, 2), BAD);
            due(x.speak(0, -1), BAD);
            due(x.speak(6, 0), BAD);
            due(x.speak(5, 0), NOTHING_THERE);
            due(x.speak(1, 0), OTHER_KIND);
        });
        changesNothing(29, x -> {
            due(x.rinse(2), BAD);
            due(x.rinse(-1), BAD);
        });
        changesNothing(30, x -> {
            due(x.led(6), BAD);
            due(x.led(-1), BAD);
        });
        sentence(32, CHANGES_NOTHING);
        TalkStrainer x = sizes(1, "0");
        lay(x, 0, 0);
        x.speak(0, 0);
        due(x.back(), STATE);
        due(x.led(0), 1);
        due(x.of(0, 8), 1);
        due(x.back(), STATE);
        sentence(33, CHANGES_NOTHING);
        x.mend(0, 0, 4);
        x.undo();
        due(x.undo(), STATE);
        due(x.count(4), 0);
        due(x.redo(), 0);
        sentence(34, CHANGES_NOTHING);
        due(x.redo(), STATE);
        due(x.count(4), 1);
        due(x.of(0, 0), 4);
        due(x.undo(), 0);
    }

    static void refusedShelves() {
        changesNothing(35, x -> {
            due(x.body(8), BAD);
            due(x.body(-1), BAD);
        });
        changesNothing(37, x -> {
            due(x.trace(-1), BAD);
            due(x.trace(24), BAD);
        });
        changesNothing(38, x -> {
            due(x.keep(1, 2), BAD);
            due(x.keep(1, -2), BAD);
            due(x.keep(6, 0), BAD);
            due(x.keep(-1, -1), BAD);
        });
        changesNothing(39, x -> {
            due(x.row(1, 0, 61), BAD);
            due(x.row(1, 5, 1), BAD);
            due(x.row(2, 0, -1), SIZE_BELOW_0);
            due(x.row(6, 0, 1), BAD);
        });
        changesNothing(40, x -> {
            due(x.put(6, 0, 1), BAD);
            due(x.put(5, 0, 1), NOTHING_THERE);
            due(x.put(1, 0, 1), OTHER_KIND);
            due(x.put(2, 3, 1), NO_PLACE);
            due(x.put(2, -1, 1), NO_PLACE);
        });
        changesNothing(42, x -> {
            due(x.shift(0, 0, 6, 0, 1), BAD);
            due(x.shift(0, 0, 5, 0, 1), NOTHING_THERE);
            due(x.shift(0, 0, 2, 0, 1), OTHER_KIND);
            due(x.shift(0, 1, 0, 0, 4), NO_PLACE);
            due(x.shift(0, 0, 0, 1, 4), NO_PLACE);
            due(x.shift(0, 0, 0, 1, -1), NO_PLACE);
        });
        changesNothing(43, x -> {
            due(x.taken(1, 8), BAD);
            due(x.taken(5, 0), NOTHING_THERE);
            due(x.taken(1, 1), OTHER_KIND);
            due(x.count(7), BAD);
        });
    }

    // ---- of several the one named first

    static void badAheadOfFull() {
        sentence(2, NAMED_FIRST);
        TalkStrainer x = sizes(12, "");
        due(x.word(10, 10), BAD);
        due(x.word(9, 9), FULL);
        for (int n = 0; n < 5; n++) {
            x.mesh(0);
            x.person(0);
        }
        x.person(0);
        due(x.mesh(10), BAD);
        due(x.mesh(9), FULL);
        due(x.person(10), BAD);
        due(x.person(9), FULL);
        for (int n = 0; n < 120; n++) {
            x.feed('1');
        }
        due(x.feed(256), BAD);
        due(x.feed(255), FULL);
        for (int n = 0; n < 50; n++) {
            x.body(0);
        }
        due(x.body(8), BAD);
        due(x.body(7), FULL);
    }

    static void badAheadOfWhatAShelfHolds() {
        sentence(11, NAMED_FIRST);
        TalkStrainer x = sizes(1, "");
        x.row(1, 1, 3);
        // shelf 0 holds nothing, shelf 1 shorts
        for (int shelf = 0; shelf <= 1; shelf++) {
            int refusal = shelf == 0 ? NOTHING_THERE : OTHER_KIND;
            due(x.through(shelf, 0, 0), refusal);
            due(x.through(shelf, 1, 0), BAD);
            due(x.through(shelf, 0, 6), BAD);
            due(x.nth(shelf, 0, 0, 0), refusal);
            due(x.nth(shelf, 1, 0, 0), BAD);
            due(x.nth(shelf, 0, -1, 0), BAD);
            due(x.nth(shelf, 0, 99, 0), refusal);
            due(x.say(shelf, 0, 0), refusal);
            due(x.say(shelf, 1, 0), BAD);
            due(x.say(shelf, 0, -2), BAD);
            due(x.between(shelf, 0, 0), refusal);
            due(x.between(shelf, 1, 0), BAD);
            due(x.between(shelf, 0, -1), BAD);
            due(x.between(shelf, 0, 99), refusal);
            due(x.meant(shelf, 0, 0), refusal);
            due(x.meant(shelf, 1, 0), BAD);
            due(x.meant(shelf, 0, 2), BAD);
            due(x.speak(shelf, 0), refusal);
            due(x.speak(shelf, 1), BAD);
            due(x.put(shelf, 9, 1), shelf == 0 ? NOTHING_THERE : NO_PLACE);
            due(x.taken(shelf, 0), refusal);
            due(x.taken(shelf, 8), BAD);
            due(x.words(shelf, 0, 0), BAD);
        }
    }

    static void nothingThereAheadOfAnotherKind() {
        sentence(13, NAMED_FIRST);
        TalkStrainer x = sizes(1, "");
        x.row(1, 1, 3);
        lay(x, 2, 0);
        // shelf 0 holds nothing, shelf 1 shorts, shelf 2 bytes
        int[] twos = {12, 21, 11, 10, 1, 2, 20, 0};
        int[] due = {OTHER_KIND, OTHER_KIND, OTHER_KIND, NOTHING_THERE, NOTHING_THERE, NOTHING_THERE, NOTHING_THERE, NOTHING_THERE};
        for (int n = 0; n < twos.length; n++) {
            due(x.several(twos[n], 0), due[n]);
            due(x.several(twos[n], 2), BAD);
            due(x.saidAt(twos[n], 0, 0), due[n]);
            due(x.saidAt(twos[n], 1, 0), BAD);
            due(x.saidAt(twos[n], 0, -1), BAD);
            due(x.saidAt(twos[n], 0, 99), due[n]);
            due(x.howFine(twos[n], 1), due[n]);
            due(x.howFine(twos[n], 2), BAD);
        }
        due(x.shift(1, 0, 0, 0, -1), NOTHING_THERE);
        due(x.shift(1, 0, 2, 0, -1), OTHER_KIND);
        due(x.shift(1, 0, 1, 0, -1), NO_PLACE);
        due(x.shift(1, 0, 6, 0, -1), BAD);
        due(x.row(0, 5, -1), BAD);
        due(x.row(0, 4, -1), SIZE_BELOW_0);
    }
}
