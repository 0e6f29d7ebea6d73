/** Boundary cases of words, meshes, people, the tape and the law: promises 1 to 10. */
final class WordBoundaries extends Sentences {
    private static final int[] MOST = {9, 9, 9, 2, 5, 9, 9, 20};
    private static final int[] BEARERS = {12, 12, 12, 12, 12, 5, 6, 1};

    private static TalkStrainer full() {
        TalkStrainer x = new TalkStrainer();
        for (int n = 0; n < 12; n++) {
            x.word(1, 1);
        }
        for (int n = 0; n < 5; n++) {
            x.mesh(1);
        }
        for (int n = 0; n < 6; n++) {
            x.person(1);
        }
        return x;
    }

    // ---- 1: a new object

    static void aNewObjectHasNothing() {
        sentence(1, "No words, no meshes, nobody.");
        TalkStrainer x = new TalkStrainer();
        for (int what = 0; what <= 2; what++) {
            due(x.count(what), 0);
        }
        due(x.of(0, 0), BAD);
        due(x.of(0, 5), BAD);
        due(x.of(0, 6), BAD);
        due(x.word(0, 0), 0);
        due(x.mesh(0), 0);
        due(x.person(0), 0);
        for (int what = 0; what <= 2; what++) {
            due(x.count(what), 1);
            due(new TalkStrainer().count(what), 0);
        }
        due(x.of(0, 0), 0);
        due(x.of(0, 5), 0);
        due(x.of(0, 6), 0);
    }

    static void theConstants() {
        sentence(1, "VOID is -2000000000.");
        due(TalkStrainer.VOID, -2000000000);
        due(TalkStrainer.BAD, -1);
        due(TalkStrainer.NOT, -2);
        due(TalkStrainer.FULL, -3);
        due(TalkStrainer.STATE, -5);
    }

    // ---- 2: word

    static void wordsAre0To11() {
        sentence(2, "A WORD: its number.");
        sentence(2, "WORDS 0 .. 11, as they come");
        TalkStrainer x = new TalkStrainer();
        for (int n = 0; n <= 11; n++) {
            due(x.of(n, 0), BAD);
            due(x.word(n % 10, 0), n);
            due(x.of(n, 0), n % 10);
        }
        due(x.of(12, 0), BAD);
        due(x.of(-1, 0), BAD);
    }

    static void wordsAreFullAt12() {
        sentence(2, "BAD, FULL: 12.");
        TalkStrainer x = new TalkStrainer();
        for (int n = 0; n < 11; n++) {
            x.word(0, 0);
        }
        due(x.count(0), 11);
        due(x.word(10, 0), BAD);
        due(x.word(9, 9), 11);
        due(x.word(0, 0), FULL);
        due(x.word(9, 9), FULL);
        due(x.word(10, 0), BAD);
        due(x.word(0, -1), BAD);
        due(x.count(0), 12);
        due(x.of(11, 0), 9);
    }

    static void sizeIs0To9() {
        sentence(2, "SIZE (0 .. 9)");
        TalkStrainer x = new TalkStrainer();
        due(x.word(-1, 0), BAD);
        due(x.word(0, 0), 0);
        due(x.word(9, 0), 1);
        due(x.word(10, 0), BAD);
        due(x.word(LEAST, 0), BAD);
        due(x.word(GREATEST, 0), BAD);
        due(x.of(0, 0), 0);
        due(x.of(1, 0), 9);
        due(x.count(0), 2);
    }

    static void harmIs0To9() {
        sentence(2, "HARM (0 .. 9)");
        TalkStrainer x = new TalkStrainer();
        due(x.word(0, -1), BAD);
        due(x.word(0, 0), 0);
        due(x.word(0, 9), 1);
        due(x.word(0, 10), BAD);
        due(x.word(0, LEAST), BAD);
        due(x.word(0, GREATEST), BAD);
        due(x.of(0, 1), 0);
        due(x.of(1, 1), 9);
        due(x.count(0), 2);
    }

    static void whatAWordIsAtFirst() {
        sentence(2, "SWEET (0 .. 9; 0 at first), SORT (0 a name, 1 a deed, 2 the rest; 2 at first), MEANT (0 .. 5; 0 at first: of whom)");
        TalkStrainer x = new TalkStrainer();
        for (int n = 0; n < 12; n++) {
            x.word(9, 9);
        }
        for (int n = 0; n < 12; n += 11) {
            due(x.of(n, 2), 0);
            due(x.of(n, 3), 2);
            due(x.of(n, 4), 0);
            due(x.mend(n, 2, 1), 0);
            due(x.mend(n, 3, 0), 2);
            due(x.mend(n, 4, 1), 0);
        }
        due(x.count(4), 6);
    }

    // ---- 3: words

    static void wordsComeOneToTwelve() {
        sentence(3, "WORDS FROM A ROW on a SHELF, from place i on, n (1 .. 12) of them:");
        TalkStrainer x = new TalkStrainer();
        x.row(0, 0, 39);
        due(x.words(0, 0, 0), BAD);
        due(x.words(0, 0, -1), BAD);
        due(x.words(0, 0, LEAST), BAD);
        due(x.words(0, 0, 13), BAD);
        due(x.words(0, 0, GREATEST), BAD);
        due(x.count(0), 0);
        due(x.words(0, 0, 1), 1);
        due(x.words(0, 0, 2), 2);
        due(x.count(0), 3);
        TalkStrainer y = new TalkStrainer();
        y.row(0, 0, 60);
        due(y.words(0, 0, 12), 12);
        due(y.count(0), 12);
        TalkStrainer z = new TalkStrainer();
        z.row(0, 0, 60);
        due(z.words(0, 0, 11), 11);
        due(z.count(0), 11);
    }

    static void noneComesFromAPlaceBelow0() {
        sentence(3, "how many came (0 with i below 0).");
        TalkStrainer x = new TalkStrainer();
        lay(x, 0, 1, 2, 3, 4, 5);
        due(x.words(0, -1, 1), 0);
        due(x.words(0, -3, 2), 0);
        due(x.words(0, LEAST, 12), 0);
        due(x.words(0, -1, 0), BAD);
        due(x.words(0, -1, 13), BAD);
        due(x.count(0), 0);
        due(x.words(0, 0, 1), 1);
        due(x.words(0, 1, 1), 1);
        due(x.of(0, 0), 1);
        due(x.of(1, 0), 2);
        due(x.of(1, 2), 4);
    }

    static void wordsFromNoRowOfBytes() {
        sentence(3, "BAD, -12 (no ROW of bytes; a SHELF that holds nothing is missing).");
        TalkStrainer x = new TalkStrainer();
        x.body(0);
        due(x.words(-1, 0, 1), BAD);
        due(x.words(6, 0, 1), BAD);
        due(x.words(LEAST, 0, 1), BAD);
        due(x.words(GREATEST, 0, 1), BAD);
        for (int shelf = 0; shelf <= 5; shelf++) {
            due(x.words(shelf, 0, 1), 0);
            due(x.words(shelf, -1, 1), 0);
            due(x.words(shelf, 0, 13), BAD);
        }
        for (int sort = 1; sort <= 4; sort++) {
            x.row(0, sort, 3);
            due(x.words(0, 0, 1), OTHER_KIND);
            due(x.words(0, -1, 1), OTHER_KIND);
            due(x.words(0, 0, 0), BAD);
        }
        x.keep(0, 0);
        due(x.words(0, 0, 1), OTHER_KIND);
        due(x.words(0, 0, 13), BAD);
        due(x.count(0), 0);
        for (int shelf = 0; shelf <= 5; shelf++) {
            x.row(shelf, 0, 3);
            due(x.words(shelf, 0, 1), 1);
        }
        due(x.count(0), 6);
        x.keep(5, -1);
        due(x.words(5, 0, 1), 0);
    }

    static void wordsComeByThrees() {
        sentence(3, "WORDS FROM A ROW of bytes, from place i on: by threes SIZE, HARM, SWEET: n of them");
        TalkStrainer x = new TalkStrainer();
        lay(x, 0, 1, 2, 3, 4, 5, 6, 7, 8, 9);
        due(x.words(0, 0, 2), 2);
        due(x.words(0, 5, 1), 1);
        for (int part = 0; part < 3; part++) {
            due(x.of(0, part), 1 + part);
            due(x.of(1, part), 4 + part);
            due(x.of(2, part), 6 + part);
        }
        due(x.of(2, 3), 2);
        due(x.of(2, 4), 0);
        due(x.count(0), 3);
        due(x.count(4), 0);
    }

    static void wordsEndWithTheRow() {
        sentence(3, "it ends where the row is missing, ends (within a three, too)");
        int[] lengths = {0, 1, 2, 3, 4, 5, 6, 35, 36};
        int[] came = {0, 0, 0, 1, 1, 1, 2, 11, 12};
        for (int n = 0; n < lengths.length; n++) {
            TalkStrainer x = new TalkStrainer();
            x.row(0, 0, lengths[n]);
            due(x.words(0, 0, 12), came[n]);
            due(x.count(0), came[n]);
        }
        TalkStrainer x = new TalkStrainer();
        x.row(0, 0, 60);
        due(x.words(0, 57, 2), 1);
        due(x.words(0, 54, 3), 2);
        due(x.words(0, 58, 1), 0);
        due(x.words(0, 59, 1), 0);
        due(x.words(0, 60, 1), 0);
        due(x.words(0, 61, 1), 0);
        due(x.words(0, GREATEST, 1), 0);
        due(x.words(0, GREATEST - 2, 12), 0);
        due(x.words(1, 0, 1), 0);
        due(x.count(0), 3);
    }

    static void wordsEndWithOneThatMayNotBe() {
        sentence(3, "one is not as it may be");
        for (int at = 0; at < 6; at++) {
            for (int wrong = -1; wrong <= 10; wrong += 11) {
                TalkStrainer x = new TalkStrainer();
                lay(x, 0, 0, 9, 0, 9, 0, 9, 1, 1, 1);
                x.put(0, at, wrong);
                due(x.words(0, 0, 3), at / 3);
                due(x.count(0), at / 3);
                x.put(0, at, wrong < 0 ? 0 : 9);
                due(x.words(0, 0, 3), 3);
            }
        }
    }

    static void wordsEndWhenWordsAreFull() {
        sentence(3, "or WORDS are FULL: those ahead came.");
        TalkStrainer x = new TalkStrainer();
        for (int n = 0; n < 10; n++) {
            x.word(0, 0);
        }
        lay(x, 0, 9, 8, 7, 6, 5, 4, 3, 2, 1);
        due(x.words(0, 0, 3), 2);
        due(x.of(10, 2), 7);
        due(x.of(11, 2), 4);
        due(x.count(0), 12);
        due(x.words(0, 0, 1), 0);
        due(x.words(1, 0, 1), 0);
        due(x.count(0), 12);
    }

    // ---- 4 and 5: mesh, person

    static void meshesAre0To4() {
        sentence(4, "A MESH: its number.");
        sentence(4, "MESHES 0 .. 4, as they come: FINE (0 .. 9)");
        TalkStrainer x = new TalkStrainer();
        due(x.mesh(-1), BAD);
        due(x.mesh(10), BAD);
        due(x.mesh(LEAST), BAD);
        due(x.mesh(GREATEST), BAD);
        due(x.mesh(0), 0);
        due(x.mesh(9), 1);
        for (int n = 2; n <= 4; n++) {
            due(x.of(n, 5), BAD);
            due(x.mesh(n), n);
            due(x.of(n, 5), n);
        }
        due(x.of(0, 5), 0);
        due(x.of(1, 5), 9);
        due(x.of(5, 5), BAD);
        due(x.of(-1, 5), BAD);
    }

    static void meshesAreFullAt5() {
        sentence(4, "BAD, FULL: 5.");
        TalkStrainer x = new TalkStrainer();
        for (int n = 0; n < 4; n++) {
            x.mesh(0);
        }
        due(x.mesh(10), BAD);
        due(x.mesh(9), 4);
        due(x.mesh(0), FULL);
        due(x.mesh(9), FULL);
        due(x.mesh(10), BAD);
        due(x.mesh(-1), BAD);
        due(x.count(1), 5);
        due(x.of(4, 5), 9);
    }

    static void peopleAre0To5() {
        sentence(5, "One: its number.");
        sentence(5, "PEOPLE 0 .. 5, as they come: THIN (0 .. 9: how easily hurt)");
        TalkStrainer x = new TalkStrainer();
        due(x.person(-1), BAD);
        due(x.person(10), BAD);
        due(x.person(LEAST), BAD);
        due(x.person(GREATEST), BAD);
        due(x.person(0), 0);
        due(x.person(9), 1);
        for (int n = 2; n <= 5; n++) {
            due(x.of(n, 6), BAD);
            due(x.person(n), n);
            due(x.of(n, 6), n);
        }
        due(x.of(0, 6), 0);
        due(x.of(1, 6), 9);
        due(x.of(6, 6), BAD);
        due(x.of(-1, 6), BAD);
    }

    static void peopleAreFullAt6() {
        sentence(5, "BAD, FULL: 6.");
        TalkStrainer x = new TalkStrainer();
        for (int n = 0; n < 5; n++) {
            x.person(0);
        }
        due(x.person(10), BAD);
        due(x.person(9), 5);
        due(x.person(0), FULL);
        due(x.person(9), FULL);
        due(x.person(10), BAD);
        due(x.person(-1), BAD);
        due(x.count(2), 6);
        due(x.of(5, 6), 9);
    }

    // ---- 6 and 7: mend, of

    private static void mendOne(int what) {
        TalkStrainer x = full();
        int was = what == 2 || what == 4 ? 0 : what == 3 ? 2 : what == 7 ? 12 : 1;
        int last = BEARERS[what] - 1;
        due(x.mend(last, what, -1), BAD);
        due(x.mend(last, what, MOST[what] + 1), BAD);
        due(x.mend(last, what, LEAST), BAD);
        due(x.mend(last, what, GREATEST), BAD);
        due(x.mend(last + 1, what, 0), BAD);
        due(x.mend(-1, what, 0), BAD);
        due(x.mend(LEAST, what, 0), BAD);
        due(x.mend(GREATEST, what, 0), BAD);
        due(x.of(last, what), was);
        due(x.mend(last, what, MOST[what]), was);
        due(x.of(last, what), MOST[what]);
        due(x.mend(last, what, 0), MOST[what]);
        due(x.of(last, what), 0);
        due(x.mend(last, what, 1), 0);
        due(x.mend(0, what, 1), last == 0 ? 1 : was);
        due(x.of(0, what), 1);
        due(x.of(last + 1, what), BAD);
        due(x.of(-1, what), BAD);
    }

    static void mendASize() {
        sentence(6, "SIZE (what 0)");
        mendOne(0);
    }

    static void mendAHarm() {
        sentence(6, "HARM (1)");
        mendOne(1);
    }

    static void mendASweet() {
        sentence(6, "SWEET (0 .. 9; 0 at first)");
        sentence(6, "SWEET (2)");
        mendOne(2);
    }

    static void mendASort() {
        sentence(6, "SORT (0 a name, 1 a deed, 2 the rest; 2 at first)");
        sentence(6, "SORT (3)");
        mendOne(3);
    }

    static void mendAMeant() {
        sentence(6, "MEANT (0 .. 5; 0 at first: of whom)");
        sentence(6, "MEANT (4) of a WORD");
        mendOne(4);
    }

    static void mendAFine() {
        sentence(6, "FINE (5) of a MESH");
        mendOne(5);
    }

    static void mendAThin() {
        sentence(6, "THIN (6) of one");
        mendOne(6);
    }

    static void mendBends() {
        sentence(6, "BENDS (0 .. 20; 12 at first)");
        sentence(6, "BENDS (7; number 0) becomes v: what it was.");
        mendOne(7);
        due(new TalkStrainer().of(0, 7), 12);
        due(new TalkStrainer().mend(0, 7, 20), 12);
        due(new TalkStrainer().mend(0, 7, 21), BAD);
    }

    static void mendWhatIsNot() {
        sentence(6, "BAD.");
        TalkStrainer x = full();
        int[] whats = {-1, 8, 9, 10, LEAST, GREATEST};
        for (int what : whats) {
            due(x.mend(0, what, 0), BAD);
        }
        due(x.count(4), 0);
        due(x.mend(0, 0, 1), 1);
        due(x.count(4), 0);
        due(x.mend(0, 0, 0), 1);
        due(x.mend(0, 7, 0), 12);
        due(x.count(4), 2);
        TalkStrainer empty = new TalkStrainer();
        for (int what = 0; what < 7; what++) {
            due(empty.mend(0, what, 0), BAD);
        }
        due(empty.mend(0, 7, 0), 12);
    }

    static void ofWhatIsNot() {
        sentence(7, "As of mend() (0 to 7)");
        TalkStrainer x = full();
        for (int what = 0; what <= 7; what++) {
            due(x.of(BEARERS[what], what), BAD);
            due(x.of(-1, what), BAD);
            due(x.of(BEARERS[what] - 1, what), what == 2 || what == 4 ? 0 : what == 3 ? 2 : what == 7 ? 12 : 1);
            due(new TalkStrainer().of(0, what), what == 7 ? 12 : BAD);
        }
        sentence(7, "BAD.");
        due(x.of(0, -1), BAD);
        due(x.of(0, 10), BAD);
        due(x.of(0, LEAST), BAD);
        due(x.of(0, GREATEST), BAD);
        due(x.of(LEAST, 0), BAD);
        due(x.of(GREATEST, 7), BAD);
    }

    static void ofWhatLiesInAMesh() {
        sentence(7, "of a MESH 8 how many WORDS lie in it in deed, 9 their HARM.");
        TalkStrainer x = new TalkStrainer();
        due(x.of(0, 8), BAD);
        due(x.of(0, 9), BAD);
        for (int n = 0; n < 5; n++) {
            x.mesh(9);
            due(x.of(n, 8), 0);
            due(x.of(n, 9), 0);
        }
        x.word(9, 0);
        x.word(9, 9);
        lay(x, 0, 0, 1, 1);
        x.through(0, 4, 1);
        due(x.of(4, 8), 0);
        x.speak(0, 4);
        due(x.of(4, 8), 3);
        due(x.of(4, 9), 18);
        x.speak(0, 4);
        due(x.of(4, 8), 6);
        due(x.of(4, 9), 36);
        due(x.of(3, 8), 0);
        due(x.of(3, 9), 0);
        x.speak(0, 0);
        due(x.of(0, 8), 3);
        due(x.of(0, 9), 18);
        due(x.of(5, 8), BAD);
        due(x.of(5, 9), BAD);
        due(x.of(-1, 8), BAD);
        due(x.of(-1, 9), BAD);
        due(x.of(GREATEST, 8), BAD);
        due(x.of(LEAST, 9), BAD);
    }

    // ---- 8: feed

    static void aByteIs0To255() {
        sentence(8, "A byte (0 .. 255) comes to THE TAPE: how many it has.");
        TalkStrainer x = new TalkStrainer();
        due(x.feed(-1), BAD);
        due(x.feed(256), BAD);
        due(x.feed(LEAST), BAD);
        due(x.feed(GREATEST), BAD);
        due(x.count(3), 0);
        due(x.feed(0), 1);
        due(x.feed(255), 2);
        due(x.feed(256), BAD);
        due(x.count(3), 2);
    }

    static void theTapeIsFullAt120() {
        sentence(8, "BAD, FULL (120).");
        TalkStrainer x = new TalkStrainer();
        for (int n = 1; n <= 119; n++) {
            due(x.feed('0'), n);
        }
        due(x.feed(256), BAD);
        due(x.feed('0'), 120);
        due(x.feed('0'), FULL);
        due(x.feed(255), FULL);
        due(x.feed(256), BAD);
        due(x.feed(-1), BAD);
        due(x.count(3), 120);
        x.law();
        due(x.feed('0'), 1);
    }

    // ---- 9: law, its grammar

    private static void fault(String text, int place) {
        TalkStrainer x = new TalkStrainer();
        due(tell(x, text), -100 - place);
        due(x.count(3), 0);
    }

    private static void good(String text) {
        TalkStrainer x = new TalkStrainer();
        due(tell(x, text), 1);
        due(x.count(3), 0);
    }

    static void theTapeBecomesTheLaw() {
        sentence(9, "THE TAPE becomes THE LAW: 1; -100 less its FAULT; THE TAPE is empty then.");
        TalkStrainer x = sizes(2, "");
        due(x.law(), -100);
        due(tell(x, "s"), 1);
        due(x.count(3), 0);
        due(x.lets(0, 0), 0);
        due(x.lets(10, 0), 1);
        // what is no law leaves the one that was told before
        due(tell(x, "1+"), -102);
        due(x.count(3), 0);
        due(x.lets(0, 0), 0);
        due(x.law(), -100);
        due(x.lets(0, 0), 0);
        due(tell(x, "1-s"), 1);
        due(x.lets(0, 0), 1);
        due(x.lets(10, 0), 0);
    }

    static void aTextOf120Bytes() {
        sentence(9, "THE LAW is a TEXT by THE TAPE (at most 120 bytes)");
        String ones = "1+".repeat(58) + "1";
        TalkStrainer x = sizes(1, ones + "=59");
        due((ones + "=59").length(), 120);
        due(x.lets(0, 0), 1);
        due(tell(x, ones + "=58"), 1);
        due(x.lets(0, 0), 0);
        good("1+".repeat(59) + "1");
        fault("1+".repeat(59) + "1x", 119);
        fault("1+".repeat(60), 120);
        // a byte beyond the 120th is not taken, so that the text ends ahead of it
        TalkStrainer y = sizes(1, "");
        due(tell(y, ones + "=59x"), 1);
        due(y.lets(0, 0), 1);
        due(tell(y, "1+".repeat(60) + "1"), -220);
    }

    static void linesArePartedBySemicolons() {
        sentence(9, "LINES, one or more, parted by ; .");
        good("1");
        good("1;1");
        good("1;".repeat(59) + "1");
        fault("", 0);
        fault(";", 0);
        fault(";1", 0);
        fault("1;", 2);
        fault("1;;1", 2);
        fault("1;".repeat(60), 120);
        fault("1;1:", 3);
    }

    static void aLineHasOneOrTwo() {
        sentence(9, "LINE: E, or E ? E");
        good("1?1");
        good("1?1;1?1");
        good("0|1?1|1");
        good("0&1<2?1+1=2|0");
        good("((((((1))))))?((((((1))))))");
        fault("1?(((((((1", 8);
        fault("(((((((1", 6);
        good("1;1?1;1");
        fault("1?", 2);
        fault("?1", 0);
        fault("?", 0);
        fault("1??1", 2);
        fault("1?1?1", 3);
        fault("1?;1", 2);
        fault("1?1?", 3);
    }

    static void anyNumberOf(char sign) {
        good("1");
        good("1" + sign + "1");
        good("1" + sign + "1" + sign + "1");
        good("1" + ("" + sign + "1").repeat(59));
        fault("1" + sign, 2);
        fault("" + sign + "1", 0);
        fault("" + sign, 0);
        fault("1" + sign + sign + "1", 2);
        fault("1" + sign + "1" + sign, 4);
        fault("1" + sign + ")", 2);
        fault("(" + sign + "1)", 1);
    }

    static void ors() {
        sentence(9, "E = A { | A }.");
        anyNumberOf('|');
    }

    static void ands() {
        sentence(9, "A = B { & B }.");
        anyNumberOf('&');
    }

    static void oneComparing() {
        sentence(9, "B = S, or S < S, S = S, S > S.");
        for (char sign : "<=>".toCharArray()) {
            good("1" + sign + "1");
            good("(1" + sign + "1)" + sign + "1");
            good("1" + sign + "(1" + sign + "1)");
            good("1" + sign + "1|1" + sign + "1&1" + sign + "1");
            fault("1" + sign, 2);
            fault("" + sign + "1", 0);
            fault("1" + sign + sign + "1", 2);
            for (char second : "<=>".toCharArray()) {
                fault("1" + sign + "1" + second + "1", 3);
                fault("1" + sign + "1+1" + second + "1", 5);
            }
        }
        fault("1!=1", 1);
    }

    static void sums() {
        sentence(9, "S = P { + P, - P }.");
        anyNumberOf('+');
        good("1-1");
        good("1-1+1-1");
        good("1" + "-1".repeat(59));
        fault("1-", 2);
        fault("-", 1);
        fault("1-+1", 2);
        // a second - stands ahead of an O
        good("1--1");
        good("1+-1");
    }

    static void products() {
        sentence(9, "P = O { * O, / O, % O }.");
        anyNumberOf('*');
        anyNumberOf('/');
        anyNumberOf('%');
        good("1*1/1%1");
        good("1*-1/!1%(1)");
        fault("1*/1", 2);
    }

    static void aNumberHasOneToFourDigits() {
        sentence(9, "O = a number (1 to 4 digits), a NAME, ! O, - O, ( E ).");
        String[] numbers = {"0", "9", "99", "999", "9999", "0000", "0001"};
        for (String number : numbers) {
            good(number);
            good("1+" + number + "+1");
        }
        fault("99999", 4);
        fault("00000", 4);
        fault("00001", 4);
        fault("1+12345", 6);
        fault("(12345)", 5);
        TalkStrainer x = sizes(1, "9999-9998");
        due(x.lets(0, 0), 1);
        due(tell(x, "0012-12"), 1);
        due(x.lets(0, 0), 0);
    }

    static void bracketsClose() {
        sentence(9, "O = a number (1 to 4 digits), a NAME, ! O, - O, ( E ).");
        good("(1)");
        good("!1");
        good("-1");
        good("((1))");
        fault("(", 1);
        fault(")", 0);
        fault("()", 1);
        fault("(1", 2);
        fault("(1))", 3);
        fault("((1)", 4);
        fault("(1?1)", 2);
        fault("(1;1)", 2);
        fault("1(1)", 1);
        fault("(1)1", 3);
        fault("!", 1);
        fault("1!", 1);
        fault("!)", 1);
        fault("-)", 1);
        fault("!;1", 1);
    }

    static void whatATextMayBeginWith() {
        sentence(9, "NAMES: s SIZE, h HARM, w SWEET, f FINE, p the place in what is said (0 on), l how many WORDS are left in the MESH already.");
        for (int letter = 0; letter <= 255; letter++) {
            TalkStrainer x = new TalkStrainer();
            x.feed(letter);
            boolean whole = "0123456789shwfpl".indexOf(letter) >= 0;
            boolean opens = "!-(".indexOf(letter) >= 0;
            due(x.law(), whole ? 1 : opens ? -101 : -100);
        }
    }

    static void whatMayFollowANumberOrAName() {
        sentence(9, "a NAME, ! O, - O, ( E ).");
        for (int letter = 0; letter <= 255; letter++) {
            TalkStrainer x = new TalkStrainer();
            boolean goesOn = "|&<=>+-*/%?;".indexOf(letter) >= 0;
            boolean digit = letter >= '0' && letter <= '9';
            x.feed('1');
            x.feed(letter);
            due(x.law(), digit ? 1 : goesOn ? -102 : -101);
            x.feed('l');
            x.feed(letter);
            due(x.law(), goesOn ? -102 : -101);
        }
    }

    static void noBlanks() {
        sentence(9, "No blanks.");
        int[] blanks = {0, 9, 10, 13, 32, 160};
        for (int blank : blanks) {
            String b = "" + (char) blank;
            fault(b + "1", 0);
            fault("1" + b, 1);
            fault("1" + b + "+1", 1);
            fault("1+" + b + "1", 2);
            fault("1;" + b + "1", 2);
            fault("(" + b + "1)", 1);
        }
        good("1+1");
    }

    static void sixAreOpenAtOnce() {
        sentence(9, "At most 6 of ( ! - ahead of an O are open at once.");
        for (String open : new String[] {"!", "-"}) {
            good(open.repeat(6) + "1");
            good(open.repeat(6) + "s+" + open.repeat(6) + "1");
            fault(open.repeat(7) + "1", 6);
            fault(open.repeat(6) + "(1)", 6);
            fault("1+" + open.repeat(7) + "1", 8);
            fault("(" + open.repeat(6) + "1)", 6);
            good("(" + open.repeat(5) + "1)");
            fault(open.repeat(6), 6);
        }
        good("((((((1))))))");
        fault("(((((((1)))))))", 6);
        fault("((((((", 6);
        fault("((((((!1))))))", 6);
        fault("((((((-1))))))", 6);
        good("(((((!1)))))");
        good("(!-(!-1))");
        fault("(!-(!-(1)))", 6);
        good("!-!-!-1");
        fault("!-!-!-!1", 6);
    }

    static void whatIsClosedIsNotOpen() {
        sentence(9, "ahead of an O are open at once.");
        good("((((((1))))))+((((((1))))))");
        good("!1+!1+!1+!1+!1+!1+!1+!1");
        good("-1*-1*-1*-1*-1*-1*-1*-1");
        good("(1)+(1)+(1)+(1)+(1)+(1)+(1)");
        good("(((((1)+(1)))))");
        good("(((((!1+!1)))))");
        fault("(((((!1+!!1)))))", 9);
        fault("((((((1)))))+(((((((1", 18);
        // a - between two P is not ahead of an O
        good("((((((1-1))))))");
        good("1-1-1-1-1-1-1-1-1");
        good("1-" + "-".repeat(6) + "1");
        fault("1-" + "-".repeat(7) + "1", 8);
    }

    static void theFaultIsTheFirstByte() {
        sentence(9, "FAULT: the place (from 0) of the first byte with which no TEXT goes on; the length, if it ends too early.");
        fault("x", 0);
        fault("1x", 1);
        fault("1+x", 2);
        fault("1+", 2);
        fault("1+1x+x", 3);
        fault("1+1+", 4);
        fault("1+1;xx", 4);
        fault("s" + (char) 255, 1);
        fault("" + (char) 0, 0);
        fault("", 0);
        good("s");
    }

    // ---- 10: lets, and what a law is worth

    /** Whether the WORD of SIZE 3, HARM 5, SWEET 2 passes the MESH of FINE 7 at place 4 with 6 left. */
    private static int passes(String text) {
        TalkStrainer x = new TalkStrainer();
        x.word(3, 5);
        x.mend(0, 2, 2);
        x.mesh(7);
        due(tell(x, text), 1);
        return x.lets(0, 406);
    }

    private static void worth(String text, String number) {
        due(passes("(" + text + ")=" + number), 1);
        due(passes("(" + text + ")=" + number + "+1"), 0);
    }

    static void aWordAndAMeshInOneNumber() {
        sentence(10, "Whether a WORD passes a MESH (wm: 10 times the WORD, and the MESH)");
        TalkStrainer x = full();
        due(x.lets(114, 0), 1);
        due(x.lets(115, 0), BAD);
        due(x.lets(119, 0), BAD);
        due(x.lets(120, 0), BAD);
        due(x.lets(124, 0), BAD);
        due(x.lets(GREATEST, 0), BAD);
        due(x.lets(-1, 0), BAD);
        due(x.lets(-9, 0), BAD);
        due(x.lets(-10, 0), BAD);
        due(x.lets(LEAST, 0), BAD);
        due(x.lets(0, 0), 1);
        due(x.lets(4, 0), 1);
        due(x.lets(5, 0), BAD);
        TalkStrainer y = new TalkStrainer();
        due(y.lets(0, 0), BAD);
        y.mesh(0);
        due(y.lets(0, 0), BAD);
        y.word(0, 0);
        due(y.lets(0, 0), 1);
        due(y.lets(1, 0), BAD);
        due(y.lets(10, 0), BAD);
        TalkStrainer z = new TalkStrainer();
        z.word(0, 0);
        due(z.lets(0, 0), BAD);
        // which word and which mesh
        x.mend(11, 1, 9);
        x.mend(4, 5, 3);
        due(x.lets(114, 0), 0);
        due(x.lets(113, 0), 1);
        due(x.lets(104, 0), 1);
    }

    static void aPlaceAndThoseLeftInOneNumber() {
        sentence(10, "at a place with so many left (pl: 100 times the place, and them, 0 .. 99 each).");
        sentence(10, "BAD.");
        TalkStrainer x = sizes(1, "p=99&l=99");
        due(x.lets(0, -1), BAD);
        due(x.lets(0, -100), BAD);
        due(x.lets(0, LEAST), BAD);
        due(x.lets(0, 9999), 1);
        due(x.lets(0, 9998), 0);
        due(x.lets(0, 9899), 0);
        due(x.lets(0, 10000), BAD);
        due(x.lets(0, GREATEST), BAD);
        tell(x, "p=0&l=0");
        due(x.lets(0, 0), 1);
        due(x.lets(0, 1), 0);
        due(x.lets(0, 100), 0);
        tell(x, "p=0&l=99");
        due(x.lets(0, 99), 1);
        due(x.lets(0, 100), 0);
        tell(x, "p=1&l=0");
        due(x.lets(0, 100), 1);
        due(x.lets(0, 99), 0);
    }

    static void intsThatWrap() {
        sentence(10, "Ints that wrap");
        due(passes("2*1024*1024*1024-1"), 1);
        due(passes("2*1024*1024*1024"), 0);
        worth("2*1024*1024*1024<0", "1");
        worth("2*1024*1024*1024-1<0", "0");
        worth("-2*1024*1024*1024-1>0", "1");
        worth("4*1024*1024*1024", "0");
        worth("2*1024*1024*1024-1+1<0", "1");
        worth("-(2*1024*1024*1024)<0", "1");
    }

    static void divisionTowardZeroAndByZero() {
        sentence(10, "/ and % toward 0, by 0 they give 0");
        worth("7/2", "3");
        worth("-7/2", "-3");
        worth("7/-2", "-3");
        worth("-7/-2", "3");
        worth("7%2", "1");
        worth("-7%2", "-1");
        worth("7%-2", "1");
        worth("-7%-2", "-1");
        worth("1/2", "0");
        worth("-1/2", "0");
        worth("5/1", "5");
        worth("5%1", "0");
        worth("5/0", "0");
        worth("5%0", "0");
        worth("0/0", "0");
        worth("0%0", "0");
        worth("5/(1-1)", "0");
        worth("-2*1024*1024*1024/-1<0", "1");
        worth("-2*1024*1024*1024%-1", "0");
    }

    static void whichSignsBindCloser() {
        sentence(10, "E = A { | A }. A = B { & B }. B = S, or S < S, S = S, S > S. S = P { + P, - P }. P = O { * O, / O, % O }.");
        String[][] worths = {{"2+3*4", "14"}, {"2*3+4", "10"}, {"2-6/3", "0"}, {"7+7%4", "10"}, {"(2+3)*4", "20"}, {"7-4-3", "0"}, {"7-4+3", "6"},
            {"8/2/2", "2"}, {"8/2*4", "16"}, {"9%5%3", "1"}, {"2*9%5", "3"}, {"-2-3", "-5"}, {"-2*3", "-6"}, {"1+1=2", "1"}, {"2=1+1", "1"},
            {"3-1>1+1", "0"}, {"1<2&0", "0"}, {"0&1<2", "0"}, {"1|0&0", "1"}, {"(1|0)&0", "0"}, {"0&0|1", "1"}, {"0&(0|1)", "0"}, {"2=2|0", "1"},
            {"2=(2|0)", "0"}, {"!1+1", "1"}, {"!(1+1)", "0"}, {"!0*5", "5"}};
        for (String[] one : worths) {
            worth(one[0], one[1]);
        }
    }

    static void signsGive1Or0() {
        sentence(10, "| & < = > ! give 1, 0");
        String[][] ones = {{"2|0", "1"}, {"0|2", "1"}, {"2|2", "1"}, {"0|0", "0"}, {"-1|0", "1"}, {"2&3", "1"}, {"2&0", "0"}, {"0&2", "0"},
            {"-1&-1", "1"}, {"4&2", "1"}, {"1<2", "1"}, {"2<2", "0"}, {"3<2", "0"}, {"-1<0", "1"}, {"1=2", "0"}, {"2=2", "1"}, {"3=2", "0"},
            {"1>2", "0"}, {"2>2", "0"}, {"3>2", "1"}, {"0>-1", "1"}, {"!0", "1"}, {"!1", "0"}, {"!2", "0"}, {"!-1", "0"}, {"!!7", "1"}};
        for (String[] one : ones) {
            worth(one[0], one[1]);
        }
    }

    static void allIsWorkedOut() {
        sentence(10, "all is worked out");
        worth("1|5/0", "1");
        worth("0|5/0", "0");
        worth("0&5/0", "0");
        worth("1&5/0", "0");
        due(passes("0?5/0;1"), 1);
        due(passes("1?5/0;1"), 0);
    }

    static void whatNamesAreWorth() {
        sentence(10, "s SIZE, h HARM, w SWEET, f FINE, p the place in what is said (0 on), l how many WORDS are left in the MESH already");
        String[] names = {"s", "h", "w", "f", "p", "l"};
        String[] worths = {"3", "5", "2", "7", "4", "6"};
        for (int n = 0; n < 6; n++) {
            worth(names[n], worths[n]);
        }
        TalkStrainer x = sizes(1, "p+l");
        lay(x, 0, 0, 0, 0);
        due(x.nth(0, 0, 0, 1), 0);
        due(x.through(0, 0, 0), 2);
        tell(x, "!p&!l");
        due(x.through(0, 0, 0), 1);
        due(x.through(0, 0, 1), 2);
    }

    static void theSecondCountsIfTheFirstIsNot0() {
        sentence(10, "(what counts if the first is not 0)");
        due(passes("1?1"), 1);
        due(passes("2?1"), 1);
        due(passes("-1?1"), 1);
        due(passes("0?1"), 0);
        due(passes("1?0"), 0);
        due(passes("1?-1"), 0);
        due(passes("0-1?1"), 1);
        due(passes("0|1?0|1"), 1);
        due(passes("1?0&1|1"), 1);
        due(passes("1?1|1&0"), 1);
    }

    static void whichLineCounts() {
        sentence(10, "The first LINE without a first E, or whose first E is not 0, counts; none: 0.");
        due(passes("0?1;1"), 1);
        due(passes("0?1;0"), 0);
        due(passes("0?1;0?1"), 0);
        due(passes("0?1;0?1;1?1"), 1);
        due(passes("0;1"), 0);
        due(passes("1;0"), 1);
        due(passes("1?0;1"), 0);
        due(passes("1?1;0"), 1);
        due(passes("-1?0;1"), 0);
        due(passes("0?0;2"), 1);
        due(passes("0?1;".repeat(29) + "0?1"), 0);
        due(passes("0?1;".repeat(29) + "1?1"), 1);
        due(passes("0?1;".repeat(29) + "1"), 1);
    }

    static void aWordPassesAbove0() {
        sentence(10, "A WORD passes, if it is above 0; else it is left.");
        due(passes("1"), 1);
        due(passes("2"), 1);
        due(passes("9999"), 1);
        due(passes("0"), 0);
        due(passes("-1"), 0);
        due(passes("-9999"), 0);
        TalkStrainer x = sizes(3, "s-1");
        lay(x, 0, 0, 1, 2);
        due(x.through(0, 0, 0), 1);
        due(x.through(0, 0, 1), 2);
        due(x.nth(0, 0, 0, 0), 2);
    }

    static void withoutAText() {
        sentence(10, "Without a text: 1, if s and h together are no more than BENDS less f; else 0.");
        TalkStrainer x = new TalkStrainer();
        x.word(3, 5);
        x.mesh(4);
        due(x.lets(0, 0), 1);
        due(x.lets(0, 9999), 1);
        x.mend(0, 5, 5);
        due(x.lets(0, 0), 0);
        x.mend(0, 7, 13);
        due(x.lets(0, 0), 1);
        x.mend(0, 0, 4);
        due(x.lets(0, 0), 0);
        x.mend(0, 1, 4);
        due(x.lets(0, 0), 1);
        x.mend(0, 2, 9);
        due(x.lets(0, 0), 1);
        x.mend(0, 0, 0);
        x.mend(0, 1, 0);
        x.mend(0, 7, 5);
        due(x.lets(0, 0), 1);
        x.mend(0, 7, 4);
        due(x.lets(0, 0), 0);
        x.mend(0, 7, 0);
        x.mend(0, 5, 0);
        due(x.lets(0, 0), 1);
        x.mend(0, 0, 9);
        x.mend(0, 1, 9);
        x.mend(0, 7, 18);
        due(x.lets(0, 0), 1);
        x.mend(0, 7, 17);
        due(x.lets(0, 0), 0);
    }
}
