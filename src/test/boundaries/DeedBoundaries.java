/** Boundary cases of what is done in deed, and of what is undone: promises 28 to 34. */
final class DeedBoundaries extends Sentences {

    // ---- 28: speak

    static void speakOnAShelf() {
        sentence(28, "BAD, -11, -12.");
        SayingBoundaries.shelfOfASaying(BAD, NOTHING_THERE, OTHER_KIND, (x, shelf) -> x.speak(shelf, 0));
        TalkStrainer x = sizes(1, "");
        lay(x, 0, 0);
        int[] noMesh = {-2, -1, 1, 5, LEAST, GREATEST};
        for (int mesh : noMesh) {
            due(x.speak(0, mesh), BAD);
            due(x.speak(1, mesh), BAD);
        }
        due(x.led(0), 0);
        for (int n = 1; n <= 4; n++) {
            due(x.speak(0, n), BAD);
            x.mesh(0);
            due(x.speak(0, n), 1);
        }
        due(x.speak(0, 5), BAD);
        due(new TalkStrainer().speak(0, 0), BAD);
        due(new TalkStrainer().speak(0, -1), BAD);
    }

    static void speakHowManyCome() {
        sentence(28, "A SAYING is SAID through a MESH: how many come.");
        int[] lengths = {0, 1, 12, 13, 60};
        for (int length : lengths) {
            TalkStrainer x = sizes(2, "s");
            int words = Math.min(length, 12);
            layAll(x, 0, length, 1);
            due(x.speak(0, 0), words);
            due(x.of(0, 8), 0);
            layAll(x, 0, length, 0);
            due(x.speak(0, 0), 0);
            due(x.of(0, 8), words);
            due(x.led(0), 2);
            due(x.led(1), words);
            due(x.led(2), words);
        }
    }

    static void whatIsLeftStays() {
        sentence(28, "a SAYING is SAID through a MESH (what is left stays in it: l)");
        TalkStrainer x = sizes(1, "l>11");
        x.mesh(0);
        x.row(0, 0, 12);
        due(x.speak(0, 0), 0);
        due(x.of(0, 8), 12);
        due(x.speak(0, 0), 12);
        due(x.of(0, 8), 12);
        due(x.of(1, 8), 0);
        due(x.speak(0, 1), 0);
        due(x.of(1, 8), 12);
        tell(x, "l>12");
        due(x.speak(0, 0), 11);
        due(x.of(0, 8), 13);
        due(x.speak(0, 0), 12);
        // places begin anew with each saying
        tell(x, "p<1");
        due(x.speak(0, 1), 1);
        due(x.of(1, 8), 23);
        tell(x, "l>99");
        due(x.speak(0, 1), 0);
        due(x.of(1, 8), 35);
    }

    // ---- 29: rinse

    static void rinseAMesh() {
        sentence(29, "A MESH is RINSED: how many WORDS lay in it. BAD.");
        TalkStrainer x = new TalkStrainer();
        due(x.rinse(0), BAD);
        x.word(9, 9);
        for (int n = 0; n < 5; n++) {
            due(x.rinse(n), BAD);
            x.mesh(0);
            due(x.rinse(n), 0);
        }
        due(x.rinse(5), BAD);
        due(x.rinse(-1), BAD);
        due(x.rinse(LEAST), BAD);
        due(x.rinse(GREATEST), BAD);
        due(x.led(4), 5);
        lay(x, 0, 0, 0);
        x.speak(0, 4);
        x.speak(0, 4);
        x.speak(0, 3);
        due(x.rinse(4), 4);
        due(x.of(4, 8), 0);
        due(x.of(4, 9), 0);
        due(x.of(3, 8), 2);
        due(x.rinse(4), 0);
        due(x.rinse(3), 2);
        due(x.led(4), 8);
        due(x.led(5), 54);
    }

    static void aRinsedMeshIsEmpty() {
        sentence(29, "a MESH is RINSED.");
        TalkStrainer x = sizes(1, "l>1");
        lay(x, 0, 0, 0, 0);
        due(x.speak(0, 0), 1);
        due(x.speak(0, 0), 3);
        due(x.rinse(0), 2);
        due(x.speak(0, 0), 1);
        due(x.of(0, 8), 2);
    }

    // ---- 30: led

    static void ledWhat() {
        sentence(30, "LED: SAYINGS (what 0), WORDS that came (1), left (2), HURTS (3), rinsings (4), HARM rinsed (5). BAD.");
        TalkStrainer x = sizes(2, "s");
        int[] noSuch = {-1, 6, LEAST, GREATEST};
        for (int what : noSuch) {
            due(x.led(what), BAD);
        }
        for (int what = 0; what <= 5; what++) {
            due(x.led(what), 0);
        }
        x.mend(0, 1, 4);
        x.mend(1, 1, 9);
        x.person(9);
        lay(x, 0, 1, 0, 1, 0, 0);
        x.speak(0, 0);
        x.rinse(0);
        int[] due = {1, 2, 3, 1, 1, 12};
        for (int what = 0; what <= 5; what++) {
            due(x.led(what), due[what]);
        }
        // an empty saying is a saying, an empty rinsing a rinsing
        lay(x, 0);
        x.speak(0, 0);
        x.rinse(0);
        int[] then = {2, 2, 3, 1, 2, 12};
        for (int what = 0; what <= 5; what++) {
            due(x.led(what), then[what]);
        }
    }

    static void ledHurtsForEachOfThePeople() {
        sentence(30, "HURTS (one for each of the PEOPLE)");
        TalkStrainer x = sizes(6, "1");
        for (int one = 0; one < 6; one++) {
            x.mend(one, 1, 9);
            x.mend(one, 4, one);
        }
        lay(x, 0, 0, 1, 2, 3, 4, 5);
        int sum = 0;
        for (int people = 0; people <= 6; people++) {
            x.speak(0, 0);
            sum += people;
            due(x.led(3), sum);
            x.person(1);
        }
        // as it comes: what is left hurts nobody, nor does 9 hurt one of THIN 0
        x.mend(0, 6, 0);
        x.speak(0, 0);
        due(x.led(3), sum + 5);
        tell(x, "p<3");
        x.speak(0, 0);
        due(x.led(3), sum + 7);
        x.through(0, 0, 3);
        due(x.led(3), sum + 7);
    }

    // ---- 31 and 32: image, back

    static void anImageIsKept() {
        sentence(31, "AN IMAGE is kept: SAYINGS.");
        TalkStrainer x = sizes(1, "0");
        lay(x, 0, 0);
        due(x.image(), 0);
        x.speak(0, 0);
        due(x.image(), 1);
        due(x.image(), 1);
        x.speak(0, 0);
        x.speak(0, 0);
        due(x.back(), 1);
        due(x.image(), 1);
        x.rinse(0);
        due(x.image(), 1);
        due(x.back(), 1);
        due(x.of(0, 8), 0);
        due(x.led(4), 1);
    }

    static void whatAnImageKeeps() {
        sentence(31, "AN IMAGE keeps what lies in the MESHES (how many, their HARM), what LED tells.");
        TalkStrainer x = sizes(2, "s");
        x.mend(0, 1, 7);
        x.mend(1, 1, 9);
        x.person(9);
        for (int n = 1; n < 5; n++) {
            x.mesh(0);
        }
        lay(x, 0, 0, 1, 0);
        x.speak(0, 0);
        x.speak(0, 4);
        x.speak(0, 4);
        x.rinse(0);
        due(x.image(), 3);
        int[] due = {3, 3, 6, 3, 1, 14};
        for (int time = 0; time < 2; time++) {
            x.speak(0, 0);
            x.speak(0, 3);
            x.rinse(4);
            x.rinse(3);
            due(x.led(0), 5);
            due(x.back(), 3);
            for (int what = 0; what <= 5; what++) {
                due(x.led(what), due[what]);
            }
            for (int mesh = 0; mesh <= 4; mesh++) {
                due(x.of(mesh, 8), mesh == 4 ? 4 : 0);
                due(x.of(mesh, 9), mesh == 4 ? 28 : 0);
            }
        }
        // numbers, words and the tape are none of it
        x.mend(1, 0, 9);
        x.word(5, 5);
        x.feed('1');
        x.back();
        due(x.of(1, 0), 9);
        due(x.count(0), 3);
        due(x.count(3), 1);
        due(x.count(4), 3);
    }

    static void noImageToLayBack() {
        sentence(32, "STATE: there is none.");
        TalkStrainer x = sizes(1, "0");
        due(x.back(), STATE);
        lay(x, 0, 0);
        x.speak(0, 0);
        due(x.back(), STATE);
        due(x.led(0), 1);
        due(x.of(0, 8), 1);
        due(x.image(), 1);
        due(x.back(), 1);
        due(x.back(), 1);
        TalkStrainer y = new TalkStrainer();
        due(y.image(), 0);
        due(y.back(), 0);
    }

    static void meshesThatCameSince() {
        sentence(32, "It is laid back (MESHES that came since are empty): SAYINGS.");
        TalkStrainer x = sizes(1, "0");
        x.mend(0, 1, 3);
        lay(x, 0, 0, 0);
        x.speak(0, 0);
        x.mesh(0);
        x.mesh(0);
        x.mesh(0);
        x.speak(0, 3);
        due(x.image(), 2);
        x.mesh(0);
        x.speak(0, 4);
        x.speak(0, 3);
        due(x.of(4, 8), 2);
        due(x.of(4, 9), 6);
        due(x.back(), 2);
        due(x.of(4, 8), 0);
        due(x.of(4, 9), 0);
        due(x.of(3, 8), 2);
        due(x.of(3, 9), 6);
        due(x.of(0, 8), 2);
        due(x.of(0, 9), 6);
        due(x.count(1), 5);
        due(x.rinse(4), 0);
        TalkStrainer z = new TalkStrainer();
        due(z.image(), 0);
        z.mesh(0);
        z.word(9, 9);
        lay(z, 0, 0);
        due(z.speak(0, 0), 0);
        due(z.back(), 0);
        due(z.of(0, 8), 0);
    }

    // ---- 33 and 34: undo, redo

    static void nothingToUndo() {
        sentence(33, "UNDONE: how many may still be. STATE: none.");
        TalkStrainer x = sizes(1, "1");
        due(x.undo(), STATE);
        x.mend(0, 0, 5);
        due(x.undo(), 0);
        due(x.of(0, 0), 0);
        due(x.undo(), STATE);
        due(x.of(0, 0), 0);
        x.mend(0, 0, 5);
        x.mend(0, 1, 5);
        due(x.undo(), 1);
        due(x.of(0, 0), 5);
        due(x.of(0, 1), 0);
        due(x.undo(), 0);
        due(x.undo(), STATE);
        due(x.of(0, 0), 0);
    }

    static void eachNumberOfMendIsAChange() {
        sentence(33, "CHANGES (all numbers of mend(); telling the same number is none) can be UNDONE, the latest first");
        TalkStrainer x = new TalkStrainer();
        x.word(1, 1);
        x.mesh(1);
        x.person(1);
        int[] was = {1, 1, 0, 2, 0, 1, 1, 12};
        for (int what = 0; what <= 7; what++) {
            x.mend(0, what, was[what]);
        }
        due(x.count(4), 0);
        due(x.undo(), STATE);
        int[] becomes = {2, 2, 2, 1, 2, 2, 2, 2};
        for (int what = 0; what <= 7; what++) {
            x.mend(0, what, becomes[what]);
            due(x.count(4), what + 1);
            x.mend(0, what, becomes[what]);
            due(x.count(4), what + 1);
        }
        for (int what = 7; what >= 0; what--) {
            due(x.of(0, what), becomes[what]);
            due(x.undo(), what);
            due(x.of(0, what), was[what]);
        }
        due(x.undo(), STATE);
    }

    static void fortyChangesAreKept() {
        sentence(33, "40 at most are kept");
        int[] told = {39, 40, 41, 42, 80, 81};
        for (int many : told) {
            TalkStrainer x = sizes(1, "");
            for (int n = 1; n <= many; n++) {
                x.mend(0, 0, n % 10);
            }
            int kept = Math.min(many, 40);
            due(x.count(4), kept);
            for (int n = kept - 1; n >= 0; n--) {
                due(x.undo(), n);
            }
            due(x.undo(), STATE);
            due(x.of(0, 0), (many - kept) % 10);
            for (int n = kept - 1; n >= 0; n--) {
                due(x.redo(), n);
            }
            due(x.redo(), STATE);
            due(x.of(0, 0), many % 10);
            due(x.count(4), kept);
        }
    }

    /** Mends by turns a MESH, a WORD, one of the PEOPLE, and tells the number, what of it, and what it becomes: what it was. */
    private static int changed(TalkStrainer x, int n, int[] then) {
        int what = n % 3 == 0 ? 5 : n % 3 == 1 ? 0 : 6;
        int number = what == 5 ? n / 3 % 5 : what == 6 ? n / 3 % 6 : n / 3 % 12;
        then[0] = number;
        then[1] = what;
        then[2] = (n / 36 + 1) % 10;
        return x.mend(number, what, then[2]);
    }

    static void eachOfFortyIsUndoneAndDoneAgain() {
        sentence(33, "can be UNDONE, the latest first, and DONE AGAIN");
        for (int many = 39; many <= 44; many++) {
            TalkStrainer x = sizes(12, "");
            for (int n = 0; n < 6; n++) {
                x.mesh(0);
                x.person(0);
            }
            int[][] then = new int[many][3];
            int[] was = new int[many];
            int changes = 0;
            for (int n = 0; changes < many; n++) {
                int[] one = new int[3];
                int before = changed(x, n, one);
                if (before != one[2]) {
                    then[changes] = one;
                    was[changes] = before;
                    changes++;
                }
            }
            int kept = Math.min(many, 40);
            due(x.count(4), kept);
            for (int n = 1; n <= kept; n++) {
                int[] one = then[many - n];
                due(x.of(one[0], one[1]), one[2]);
                due(x.undo(), kept - n);
                due(x.of(one[0], one[1]), was[many - n]);
            }
            due(x.undo(), STATE);
            for (int n = kept; n >= 1; n--) {
                int[] one = then[many - n];
                due(x.of(one[0], one[1]), was[many - n]);
                due(x.redo(), n - 1);
                due(x.of(one[0], one[1]), one[2]);
            }
            due(x.redo(), STATE);
        }
    }

    static void aChangeBehindFortyAndSomeUndone() {
        sentence(33, "40 at most are kept; deeds are none.");
        TalkStrainer x = sizes(1, "");
        for (int n = 1; n <= 40; n++) {
            x.mend(0, 0, n % 10);
        }
        due(x.undo(), 39);
        x.mend(0, 1, 1);
        due(x.count(4), 40);
        x.mend(0, 1, 2);
        due(x.count(4), 40);
        // the first change is forgotten
        for (int n = 39; n >= 0; n--) {
            due(x.undo(), n);
        }
        due(x.undo(), STATE);
        due(x.of(0, 1), 0);
        due(x.of(0, 0), 1);
    }

    static void deedsAreNoChanges() {
        sentence(33, "deeds are none.");
        TalkStrainer x = sizes(1, "0");
        lay(x, 0, 0);
        x.speak(0, 0);
        x.image();
        x.rinse(0);
        x.back();
        due(x.count(4), 0);
        due(x.undo(), STATE);
        due(x.of(0, 8), 1);
        x.mend(0, 0, 1);
        x.speak(0, 0);
        x.rinse(0);
        due(x.count(4), 1);
        due(x.undo(), 0);
        due(x.of(0, 8), 0);
        due(x.led(4), 1);
        due(x.led(0), 2);
        due(x.undo(), STATE);
    }

    static void nothingToDoAgain() {
        sentence(34, "DONE AGAIN: how many may still be. STATE: none.");
        TalkStrainer x = sizes(1, "");
        due(x.redo(), STATE);
        x.mend(0, 0, 5);
        due(x.redo(), STATE);
        x.mend(0, 0, 6);
        x.undo();
        due(x.redo(), 0);
        due(x.of(0, 0), 6);
        due(x.redo(), STATE);
        due(x.of(0, 0), 6);
        x.undo();
        x.undo();
        due(x.redo(), 1);
        due(x.of(0, 0), 5);
        due(x.redo(), 0);
        due(x.of(0, 0), 6);
        due(x.redo(), STATE);
    }

    static void doneAgainAsLongAsNoOtherCame() {
        sentence(34, "DONE AGAIN (as long as no other came behind)");
        TalkStrainer x = sizes(1, "0");
        x.mesh(3);
        x.person(3);
        x.mend(0, 0, 5);
        x.mend(0, 0, 6);
        x.mend(0, 0, 7);
        x.undo();
        x.undo();
        // neither a deed, nor a refusal, nor the same number again, nor one that comes is a change
        lay(x, 0, 0);
        x.speak(0, 0);
        x.rinse(0);
        x.image();
        x.back();
        x.mend(0, 0, 5);
        x.mend(0, 0, 10);
        x.mend(1, 0, 1);
        x.word(1, 1);
        x.mesh(1);
        x.person(1);
        x.words(0, 0, 1);
        tell(x, "1");
        due(x.redo(), 1);
        due(x.of(0, 0), 6);
        for (int what = 0; what <= 7; what++) {
            TalkStrainer y = sizes(1, "");
            y.person(0);
            y.mend(0, 0, 5);
            y.mend(0, 0, 6);
            y.undo();
            y.undo();
            due(y.mend(0, what, 1), what == 3 ? 2 : what == 7 ? 12 : 0);
            due(y.redo(), STATE);
            due(y.count(4), 1);
            due(y.undo(), 0);
            due(y.redo(), 0);
            due(y.of(0, what), 1);
        }
    }
}
