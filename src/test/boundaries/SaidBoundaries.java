/** Boundary cases of what was said, of games and of evenings by draws: promises 19 to 27. */
final class SaidBoundaries extends Sentences {
    private static final String TWO_SHELVES = "what was said (cl: 10 times the SHELF of CAME, and that of LEFT).";

    // ---- 19: said

    static void saidOnTwoShelves() {
        sentence(19, TWO_SHELVES);
        sentence(19, "Long.MIN_VALUE: BAD, no ROWS of bytes.");
        SayingBoundaries.twoShelves(REFUSED, REFUSED, REFUSED, (x, cl) -> x.said(cl, 0));
        SayingBoundaries.meshOrNone(REFUSED, (x, mesh) -> x.said(0, mesh));
        TalkStrainer x = sizes(4, "s>1");
        lay(x, 0, 2);
        lay(x, 1, 1);
        due(x.said(1, 0), 2);
        due(x.said(10, 0), 0);
        due(x.said(1, -1), 0);
        // on SHELF n a ROW of n + 1 words
        for (int shelf = 0; shelf <= 5; shelf++) {
            x.row(shelf, 0, shelf + 1);
        }
        for (int many = 1; many <= 5; many += 4) {
            tell(x, "p<" + many);
            for (int left = 0; left <= 5; left++) {
                for (int came = 0; came <= 5; came++) {
                    due(x.said(10 * came + left, 0), came + 1 == many ? 1 : 0);
                }
            }
            tell(x, "l>" + (many - 1));
            for (int left = 0; left <= 5; left++) {
                for (int came = 0; came <= 5; came++) {
                    due(x.said(10 * came + left, 0), left + 1 == many ? 1 : 0);
                }
            }
        }
    }

    static void saidTwelveAtMost() {
        sentence(19, "(12 WORDS at most together, else none)");
        int[] came = {0, 1, 0, 12, 0, 12, 1, 11, 6, 6, 7, 10, 10, 12};
        int[] left = {0, 0, 1, 0, 12, 1, 12, 1, 6, 7, 6, 2, 3, 12};
        long[] ways = {1, 1, 1, 1, 1, 0, 0, 12, 924, 0, 0, 66, 0, 0};
        for (int n = 0; n < ways.length; n++) {
            TalkStrainer x = sizes(4, "s>1");
            layAll(x, 0, came[n], 2);
            layAll(x, 1, left[n], 1);
            due(x.said(1, 0), ways[n]);
        }
        // a row of more than 12 is a saying of 12
        TalkStrainer x = sizes(4, "s>1");
        layAll(x, 0, 13, 2);
        x.row(1, 0, 0);
        due(x.said(1, 0), 1);
        layAll(x, 1, 1, 1);
        due(x.said(1, 0), 0);
        layAll(x, 0, 13, 7);
        due(x.said(1, 0), 1);
    }

    static void saidInSomeOrder() {
        sentence(19, "WHAT WAS SAID: how many.");
        sentence(19, "how many SAYINGS of WORDS in some order (those that CAME in their order, those LEFT in theirs) come through a MESH as just these");
        TalkStrainer x = sizes(4, "s>1");
        lay(x, 0, 2, 3);
        lay(x, 1, 0, 1);
        due(x.said(1, 0), 6);
        due(x.said(1, -1), 0);
        lay(x, 1, 0, 2);
        due(x.said(1, 0), 0);
        lay(x, 0, 2, 1);
        lay(x, 1, 0);
        due(x.said(1, 0), 0);
        lay(x, 1);
        due(x.said(1, 0), 0);
        due(x.said(1, -1), 1);
        // like words on both: an order is told by what comes, so that none counts twice
        tell(x, "p<2");
        lay(x, 0, 1, 1);
        lay(x, 1, 1, 1);
        due(x.said(1, 0), 1);
        tell(x, "p<3");
        due(x.said(1, 0), 0);
        tell(x, "l>1");
        due(x.said(1, 0), 1);
        tell(x, "l>2");
        due(x.said(1, 0), 0);
    }

    // ---- 20: saidAt

    static void saidAtOnTwoShelves() {
        sentence(20, TWO_SHELVES);
        sentence(20, "BAD, -11, -12; NOT.");
        SayingBoundaries.twoShelves(BAD, NOTHING_THERE, OTHER_KIND, (x, cl) -> x.saidAt(cl, 0, 0));
        SayingBoundaries.meshOrNone(BAD, (x, mesh) -> x.saidAt(0, mesh, 0));
        for (int many = 1; many <= 5; many += 2) {
            TalkStrainer x = sizes(4, "p<" + many);
            for (int shelf = 0; shelf <= 5; shelf++) {
                x.row(shelf, 0, shelf + 1);
            }
            for (int left = 0; left <= 5; left++) {
                for (int came = 0; came <= 5; came++) {
                    int last = came + left + 1;
                    due(x.saidAt(10 * came + left, 0, last), came + 1 == many ? 0 : NOT);
                    due(x.saidAt(10 * came + left, 0, last + 1), NOT);
                }
            }
        }
    }

    static void saidAtTheKth() {
        sentence(20, "The k-th WORD of the first one.");
        TalkStrainer x = sizes(4, "s>1");
        lay(x, 0, 2, 3);
        lay(x, 1, 1, 0);
        int[] due = {1, 0, 2, 3, NOT, NOT};
        for (int k = 0; k < due.length; k++) {
            due(x.saidAt(1, 0, k), due[k]);
        }
        due(x.saidAt(1, 0, -1), BAD);
        due(x.saidAt(1, 0, LEAST), BAD);
        due(x.saidAt(1, 0, GREATEST), NOT);
        due(x.saidAt(2, 0, -1), BAD);
        due(x.saidAt(1, -1, 0), NOT);
        lay(x, 0);
        lay(x, 1);
        due(x.said(1, 0), 1);
        due(x.saidAt(1, 0, 0), NOT);
        layAll(x, 0, 11, 2);
        layAll(x, 1, 1, 0);
        due(x.saidAt(1, 0, 0), 0);
        due(x.saidAt(1, 0, 11), 2);
        due(x.saidAt(1, 0, 12), NOT);
        layAll(x, 0, 12, 2);
        due(x.said(1, 0), 0);
        due(x.saidAt(1, 0, 0), NOT);
        due(x.saidAt(1, 0, 12), NOT);
    }

    static void saidAtTheFirstByNumbers() {
        sentence(20, "the k-th WORD of the first one (by numbers); NOT.");
        TalkStrainer x = sizes(4, "s=1|s=2");
        lay(x, 0, 1, 2);
        lay(x, 1, 3, 0);
        int[] due = {1, 2, 3, 0};
        for (int k = 0; k < 4; k++) {
            due(x.saidAt(1, 0, k), due[k]);
        }
        lay(x, 1, 0, 3);
        int[] other = {0, 1, 2, 3};
        for (int k = 0; k < 4; k++) {
            due(x.saidAt(1, 0, k), other[k]);
        }
        // a like word that may come or be left: which one, is told by what can follow
        tell(x, "p%2");
        lay(x, 0, 1, 0);
        lay(x, 1, 1, 3);
        int[] third = {1, 1, 3, 0, NOT};
        for (int k = 0; k < 5; k++) {
            due(x.saidAt(1, 0, k), third[k]);
        }
    }

    private static void firstOne(String law, int[] came, int[] left, int... first) {
        TalkStrainer x = sizes(4, law);
        // a longer one was asked for before
        layAll(x, 0, 6, 1);
        layAll(x, 1, 6, 0);
        x.said(1, -1);
        x.said(1, 0);
        x.saidAt(1, 0, 0);
        lay(x, 0, came);
        lay(x, 1, left);
        for (int k = 0; k < first.length; k++) {
            due(x.saidAt(1, 0, k), first[k]);
        }
        due(x.saidAt(1, 0, first.length), NOT);
    }

    static void saidAtGoesNoWayThatEnds() {
        sentence(20, "those that CAME in their order, those LEFT in theirs");
        int[] one = {1};
        int[] two = {2};
        int[] none = {0};
        // the lesser one could come, but just behind the other one that is left
        firstOne("s=0&p", none, one, 1, 0);
        firstOne("s=0&l", none, one, 1, 0);
        // the lesser one could be left, but just behind the other one that comes
        firstOne("s|!p", one, none, 1, 0);
        firstOne("s&p<2", new int[] {1, 2}, new int[] {3, 0}, 1, 2, 3, 0);
        // the lesser one could be first, but then the other one can't be second
        firstOne("s=1&!l", one, none, 1, 0);
        firstOne("s=1|s=2&!p", two, none, 2, 0);
        firstOne("s=0|s=1&p", new int[] {0, 1}, new int[] {3}, 0, 1, 3);
        firstOne("s=0|s=3&l<1", new int[] {3, 0}, new int[] {1}, 3, 0, 1);
        firstOne("s=1|s=2&l", new int[] {1, 2}, new int[] {3, 3}, 1, 3, 2, 3);
        firstOne("s=1&l|s=0&!p", new int[] {0, 1}, new int[] {3}, 0, 3, 1);
        // either is first, of unlike ones the lesser one
        firstOne("s=1", one, two, 1, 2);
        firstOne("s=2", two, one, 1, 2);
        firstOne("s=2", two, none, 0, 2);
    }

    // ---- 21: alone

    static void aloneOnAShelf() {
        sentence(21, "Long.MIN_VALUE: BAD, no ROW of bytes.");
        SayingBoundaries.shelfOfASaying(REFUSED, REFUSED, REFUSED, (x, shelf) -> x.alone(shelf, 0, 0));
        sentence(21, "(-1: none, all passes)");
        SayingBoundaries.meshOrNone(REFUSED, (x, mesh) -> x.alone(0, mesh, 0));
    }

    static void aloneWithNLeft() {
        sentence(21, "ALONE with n left.");
        sentence(21, "n WORDS (0 .. 4; any, again, too) are left");
        TalkStrainer x = sizes(3, "s>1");
        lay(x, 0, 2);
        long[] ways = {1, 2 * 2, 3 * 4, 4 * 8, 5 * 16};
        for (int n = 0; n <= 4; n++) {
            due(x.alone(0, 0, n), ways[n]);
            due(x.alone(0, -1, n), n == 0 ? 1 : 0);
        }
        int[] noSuch = {-1, 5, LEAST, GREATEST};
        for (int n : noSuch) {
            due(x.alone(0, 0, n), REFUSED);
        }
        lay(x, 0);
        due(x.alone(0, 0, 0), 1);
        due(x.alone(0, 0, 4), 16);
        lay(x, 0, 1);
        due(x.alone(0, 0, 0), 0);
        due(x.alone(0, -1, 0), 1);
        due(new TalkStrainer().alone(0, -1, 0), REFUSED);
    }

    static void aloneTwelveAtMost() {
        sentence(21, "(12 at most together, else none)");
        int[] came = {12, 12, 11, 11, 8, 9, 9, 10, 10};
        int[] left = {0, 1, 1, 2, 4, 3, 4, 2, 3};
        long[] ways = {1, 0, 12 * 2, 0, 495 * 16, 220 * 8, 0, 66 * 4, 0};
        for (int n = 0; n < ways.length; n++) {
            TalkStrainer x = sizes(3, "s>1");
            layAll(x, 0, came[n], 2);
            due(x.alone(0, 0, left[n]), ways[n]);
        }
        TalkStrainer x = sizes(12, "p");
        // just the first is left, any of 12
        x.row(0, 0, 11);
        due(x.alone(0, 0, 1), 12);
        x.row(0, 0, 12);
        due(x.alone(0, 0, 1), 0);
        // the first two come, any behind them are left
        tell(x, "p<2");
        x.row(0, 0, 2);
        due(x.alone(0, 0, 0), 1);
        due(x.alone(0, 0, 3), 12 * 12 * 12);
        due(x.alone(0, 0, 4), 12 * 12 * 12 * 12);
        // the first two are left, what is behind them comes
        tell(x, "l>1");
        due(x.alone(0, 0, 2), 12 * 12);
        due(x.alone(0, 0, 1), 0);
        due(x.alone(0, 0, 3), 0);
        tell(x, "0");
        x.row(0, 0, 0);
        due(x.alone(0, 0, 4), 12 * 12 * 12 * 12);
    }

    // ---- 22: howFine

    static void howFineOnTwoShelves() {
        sentence(22, "HOW FINE (sc: 10 times the SHELF of the SAYING, and that of CAME):");
        sentence(22, "BAD, -11, -12.");
        SayingBoundaries.twoShelves(BAD, NOTHING_THERE, OTHER_KIND, (x, sc) -> x.howFine(sc, 0));
        TalkStrainer x = sizes(3, "s>1");
        lay(x, 0, 0, 2);
        lay(x, 1, 2);
        due(x.howFine(1, 0), 10);
        due(x.howFine(10, 0), 0);
        // on SHELF n a ROW of n + 1 words; so many come as the mesh is fine
        tell(x, "p<f");
        for (int shelf = 0; shelf <= 5; shelf++) {
            x.row(shelf, 0, shelf + 1);
        }
        for (int saying = 0; saying <= 5; saying++) {
            for (int came = 0; came <= 5; came++) {
                due(x.howFine(10 * saying + came, 0), came < saying ? 1 : came == saying ? 9 - came : 0);
                due(x.howFine(10 * saying + came, 1), came <= saying ? came + 1 : NOT);
            }
        }
    }

    static void howFineWhat() {
        sentence(22, "how many (what 0), the least (1; NOT).");
        TalkStrainer x = sizes(2, "f=5|f=7");
        lay(x, 0, 0);
        due(x.howFine(0, 0), 2);
        due(x.howFine(0, 1), 5);
        int[] noSuch = {-1, 2, LEAST, GREATEST};
        for (int what : noSuch) {
            due(x.howFine(0, what), BAD);
            due(x.howFine(2, what), BAD);
        }
        tell(x, "0");
        due(x.howFine(0, 0), 0);
        due(x.howFine(0, 1), NOT);
    }

    static void howFine0To9() {
        sentence(22, "by how many FINE (0 .. 9) just CAME comes of a SAYING; the least; NOT.");
        TalkStrainer x = sizes(2, "f=9");
        lay(x, 0, 1);
        due(x.howFine(0, 0), 1);
        due(x.howFine(0, 1), 9);
        tell(x, "f=10|f<0");
        due(x.howFine(0, 0), 0);
        due(x.howFine(0, 1), NOT);
        tell(x, "!f");
        due(x.howFine(0, 0), 1);
        due(x.howFine(0, 1), 0);
        tell(x, "1");
        due(x.howFine(0, 0), 10);
        due(x.howFine(0, 1), 0);
        lay(x, 1);
        due(x.howFine(1, 0), 0);
        due(x.howFine(10, 0), 0);
        due(x.howFine(11, 0), 10);
        // just CAME: one more, one less, or another one is not just it
        lay(x, 0, 1, 0, 1);
        lay(x, 1, 1, 0);
        due(x.howFine(1, 0), 0);
        due(x.howFine(10, 0), 0);
        tell(x, "p<2|f");
        due(x.howFine(1, 0), 1);
        due(x.howFine(1, 1), 0);
        lay(x, 1, 1, 1);
        due(x.howFine(1, 0), 0);
        // twelve of twelve, and eleven of them
        x.row(0, 0, 12);
        x.row(1, 0, 12);
        tell(x, "p<12");
        due(x.howFine(1, 0), 10);
        tell(x, "p<11");
        due(x.howFine(1, 0), 0);
        x.row(1, 0, 11);
        due(x.howFine(1, 0), 10);
        x.row(0, 0, 13);
        x.row(1, 0, 13);
        tell(x, "1");
        due(x.howFine(1, 0), 10);
    }

    static void whatWasSaidFindsNothingLeft() {
        sentence(19, "in thought each MESH is empty at first.");
        TalkStrainer x = passesIfNothingIsLeft();
        lay(x, 1);
        due(x.said(1, 0), 1);
        sentence(20, "in thought each MESH is empty at first.");
        due(x.saidAt(1, 0, 1), 1);
        sentence(21, "in thought each MESH is empty at first.");
        due(x.alone(0, 0, 0), 1);
        due(x.alone(0, 0, 1), 0);
        sentence(22, "in thought each MESH is empty at first.");
        due(x.howFine(0, 0), 10);
        due(x.howFine(1, 0), 0);
        sentence(24, "in thought each MESH is empty at first.");
        due(x.meant(0, 0, 0), NOT);
        due(x.meant(0, 0, 1), 0);
        sentence(25, "in thought each MESH is empty at first.");
        due(x.likely(0, 0, 0, 0), 0);
        due(x.likely(0, 0, 0, 1), 1);
        sentence(26, "two speak by turns through an empty MESH");
        due(x.game(0, 0), 0);
        x.word(0, 0);
        due(x.game(0, 0), 1);
        sentence(27, "empty as an evening begins");
        due(x.drawn(1, 3020, 0, 0), 0);
    }

    // ---- 23: between

    static void betweenOnAShelf() {
        sentence(23, "BAD, -11, -12; NOT: the SAYING has fewer than k WORDS.");
        SayingBoundaries.shelfOfASaying(BAD, NOTHING_THERE, OTHER_KIND, (x, shelf) -> x.between(shelf, 0, 0));
        SayingBoundaries.meshOrNone(BAD, (x, mesh) -> x.between(0, mesh, 0));
        int[] lengths = {0, 1, 11, 12, 13};
        for (int length : lengths) {
            TalkStrainer x = sizes(2, "s");
            layAll(x, 0, length, 1);
            int words = Math.min(length, 12);
            due(x.between(0, 0, words), 1);
            due(x.between(0, 0, words + 1), NOT);
            due(x.between(0, 0, words + 2), NOT);
            due(x.between(0, 0, 0), 1);
            due(x.between(0, 0, -1), BAD);
            due(x.between(0, 0, LEAST), BAD);
            due(x.between(0, 0, GREATEST), NOT);
        }
    }

    static void betweenAtEachEnd() {
        sentence(23, "SAID BETWEEN: bits.");
        sentence(23, "said behind the k-th of a SAYING (k 0: ahead of all), would be left, and change nothing of what comes.");
        TalkStrainer x = sizes(3, "!p|s=2");
        lay(x, 0, 1, 2);
        // ahead of all it comes itself, behind the first one it is left, if it is not of size 2
        due(x.between(0, 0, 0), 0);
        due(x.between(0, 0, 1), 3);
        due(x.between(0, 0, 2), 3);
        // ahead of all it is left, and puts what comes to another place
        tell(x, "p=1|s=2");
        lay(x, 0, 0, 1);
        due(x.between(0, 0, 0), 0);
        due(x.between(0, 0, 1), 0);
        due(x.between(0, 0, 2), 3);
        lay(x, 0, 1, 1);
        due(x.between(0, 0, 0), 3);
        due(x.between(0, -1, 0), 0);
        lay(x, 0);
        due(x.between(0, 0, 0), 3);
        tell(x, "0");
        due(x.between(0, 0, 0), 7);
        tell(x, "1");
        due(x.between(0, 0, 0), 0);
    }

    static void betweenCountsAsLeft() {
        sentence(23, "SAID BETWEEN: which WORDS (bits), said behind the k-th of a SAYING");
        TalkStrainer x = sizes(12, "s>1&l<2");
        lay(x, 0, 2, 0, 3);
        // two of size 0 and two of size 1 may be left; one more left takes 3 away, but not behind it
        due(x.between(0, 0, 0), 0);
        due(x.between(0, 0, 2), 0);
        due(x.between(0, 0, 3), 1 + 2 + 1024 + 2048);
        lay(x, 0, 2, 3);
        due(x.between(0, 0, 1), 1 + 2 + 1024 + 2048);
        lay(x, 0, 2, 0, 0);
        due(x.between(0, 0, 3), 4095);
        due(x.between(0, 0, 2), 1 + 2 + 1024 + 2048);
    }

    static void betweenFindsWhatIsLeftAheadOfIt() {
        sentence(23, "in thought each MESH is empty at first.");
        // 0 passes as long as nothing is left, 1 always, 2 if something is left, 3 never
        TalkStrainer x = sizes(4, "s=0&!l|s=1|s=2&l");
        lay(x, 1, 3, 3);
        x.speak(1, 0);
        lay(x, 0, 0);
        due(x.between(0, 0, 0), 0);
        due(x.between(0, 0, 1), 4 + 8);
        // what is left behind it is not left yet
        lay(x, 0, 0, 3);
        due(x.between(0, 0, 1), 4 + 8);
        due(x.between(0, 0, 2), 1 + 8);
        lay(x, 0, 3, 1);
        due(x.between(0, 0, 0), 4 + 8);
        due(x.between(0, 0, 1), 1 + 8);
        due(x.between(0, 0, 2), 1 + 8);
        lay(x, 0, 0, 1, 0);
        due(x.between(0, 0, 2), 0);
        due(x.between(0, 0, 3), 4 + 8);
    }

    static void betweenTwelveWords() {
        sentence(23, "(k 0: ahead of all)");
        TalkStrainer x = sizes(2, "p<12&s");
        layAll(x, 0, 12, 1);
        // a 12th that is put to place 12 does not come any more
        due(x.between(0, 0, 12), 3);
        due(x.between(0, 0, 11), 0);
        due(x.between(0, 0, 0), 0);
        tell(x, "p<13&s");
        due(x.between(0, 0, 12), 1);
        due(x.between(0, 0, 0), 1);
    }

    // ---- 24: meant

    static void meantOnAShelf() {
        sentence(24, "BAD, -11, -12.");
        for (int what = 0; what <= 1; what++) {
            int asked = what;
            SayingBoundaries.shelfOfASaying(BAD, NOTHING_THERE, OTHER_KIND, (x, shelf) -> x.meant(shelf, 0, asked));
            SayingBoundaries.meshOrNone(BAD, (x, mesh) -> x.meant(0, mesh, asked));
        }
        TalkStrainer x = sizes(1, "0");
        lay(x, 0, 0);
        int[] noSuch = {-1, 2, LEAST, GREATEST};
        for (int what : noSuch) {
            due(x.meant(0, 0, what), BAD);
            due(x.meant(1, 0, what), BAD);
        }
    }

    /** A WORD of SIZE 9 for each of 0 to 5, with so much HARM; a law by which all of SIZE 9 is left. */
    private static TalkStrainer harms(int... harms) {
        TalkStrainer x = new TalkStrainer();
        for (int one = 0; one < 6; one++) {
            word(x, 9, harms[one], 0, 2, one);
        }
        x.mesh(0);
        tell(x, "s<9");
        lay(x, 0, 0, 1, 2, 3, 4, 5);
        return x;
    }

    static void meantOfWhom() {
        sentence(24, "MEANT: of whom (what 0; NOT), SPITE (1).");
        sentence(24, "of whom (0 .. 5) most HARM is (of like ones the least; NOT: no HARM is)");
        due(harms(0, 0, 0, 0, 0, 0).meant(0, 0, 0), NOT);
        due(harms(0, 0, 0, 0, 0, 1).meant(0, 0, 0), 5);
        due(harms(1, 0, 0, 0, 0, 1).meant(0, 0, 0), 0);
        due(harms(1, 0, 0, 0, 0, 2).meant(0, 0, 0), 5);
        due(harms(1, 2, 2, 2, 2, 2).meant(0, 0, 0), 1);
        due(harms(0, 0, 8, 9, 9, 0).meant(0, 0, 0), 3);
        TalkStrainer x = harms(9, 5, 0, 0, 0, 0);
        lay(x, 0, 1, 0, 1);
        due(x.meant(0, 0, 0), 1);
        due(x.meant(0, -1, 0), NOT);
        lay(x, 0);
        due(x.meant(0, 0, 0), NOT);
        lay(x, 0, 6, 0);
        due(x.meant(0, 0, 0), NOT);
    }

    static void spite() {
        sentence(24, "SPITE: which MEANT (bits) has HARM left of it, but nothing that comes.");
        due(harms(0, 0, 0, 0, 0, 0).meant(0, 0, 1), 0);
        due(harms(1, 1, 1, 1, 1, 1).meant(0, 0, 1), 63);
        due(harms(1, 0, 0, 0, 0, 0).meant(0, 0, 1), 1);
        due(harms(0, 0, 0, 0, 0, 1).meant(0, 0, 1), 32);
        TalkStrainer x = harms(0, 3, 0, 0, 0, 4);
        due(x.meant(0, -1, 1), 0);
        word(x, 0, 1, 0, 2, 5);
        lay(x, 0, 1, 5, 6);
        due(x.meant(0, 0, 1), 2);
        // a word without harm that comes is something, too
        x.mend(6, 1, 0);
        due(x.meant(0, 0, 1), 2);
        x.mend(6, 4, 1);
        due(x.meant(0, 0, 1), 32);
        x.mend(6, 4, 0);
        due(x.meant(0, 0, 1), 34);
        lay(x, 0);
        due(x.meant(0, 0, 1), 0);
    }

    // ---- 25: likely

    static void likelyOnAShelf() {
        sentence(25, "Long.MIN_VALUE: BAD, no ROW of bytes.");
        for (int part = 0; part <= 1; part++) {
            int asked = part;
            SayingBoundaries.shelfOfASaying(REFUSED, REFUSED, REFUSED, (x, shelf) -> x.likely(shelf, 0, 0, asked));
            SayingBoundaries.meshOrNone(REFUSED, (x, mesh) -> x.likely(0, mesh, 5, asked));
        }
    }

    static void likelyOfOne() {
        sentence(25, "How likely it is of one (0 .. 5; part 0 above, 1 below the line).");
        TalkStrainer x = harms(1, 2, 3, 4, 5, 6);
        long[] above = {1, 2, 1, 4, 5, 2};
        long[] below = {21, 21, 7, 21, 21, 7};
        for (int one = 0; one <= 5; one++) {
            due(x.likely(0, 0, one, 0), above[one]);
            due(x.likely(0, 0, one, 1), below[one]);
        }
        int[] noOne = {-1, 6, LEAST, GREATEST};
        for (int one : noOne) {
            due(x.likely(0, 0, one, 0), REFUSED);
            due(x.likely(0, 0, one, 1), REFUSED);
        }
        int[] noPart = {-1, 2, LEAST, GREATEST};
        for (int part : noPart) {
            due(x.likely(0, 0, 0, part), REFUSED);
            due(x.likely(0, 0, 5, part), REFUSED);
        }
    }

    static void likelyInLowestTerms() {
        sentence(25, "how likely a HARM of those is of one: a fraction in lowest terms (none: 0 by 1).");
        TalkStrainer none = harms(0, 0, 0, 0, 0, 0);
        due(none.likely(0, 0, 0, 0), 0);
        due(none.likely(0, 0, 0, 1), 1);
        due(none.likely(0, 0, 5, 0), 0);
        due(none.likely(0, 0, 5, 1), 1);
        TalkStrainer x = harms(0, 4, 0, 8, 0, 0);
        due(x.likely(0, 0, 0, 0), 0);
        due(x.likely(0, 0, 0, 1), 1);
        due(x.likely(0, 0, 1, 0), 1);
        due(x.likely(0, 0, 1, 1), 3);
        due(x.likely(0, 0, 3, 0), 2);
        due(x.likely(0, 0, 3, 1), 3);
        lay(x, 0, 3, 3);
        due(x.likely(0, 0, 3, 0), 1);
        due(x.likely(0, 0, 3, 1), 1);
        due(x.likely(0, 0, 1, 0), 0);
        due(x.likely(0, 0, 1, 1), 1);
        due(x.likely(0, -1, 3, 0), 0);
        due(x.likely(0, -1, 3, 1), 1);
        lay(x, 0);
        due(x.likely(0, 0, 3, 0), 0);
        due(x.likely(0, 0, 3, 1), 1);
        // twelve words of harm 9 and one of them of harm 1
        TalkStrainer y = harms(9, 1, 0, 0, 0, 0);
        lay(y, 0, 0, 0, 0, 0, 0, 0, 0, 0, 0, 0, 0, 1);
        due(y.likely(0, 0, 0, 0), 99);
        due(y.likely(0, 0, 0, 1), 100);
        due(y.likely(0, 0, 1, 0), 1);
        due(y.likely(0, 0, 1, 1), 100);
    }

    // ---- 26: game

    static void gameWhat() {
        sentence(26, "GAME: whether (what 0), with which (1; NOT). BAD.");
        TalkStrainer x = sizes(1, "");
        due(x.game(0, 0), 1);
        due(x.game(0, 1), 0);
        int[] noSuch = {-1, 2, LEAST, GREATEST};
        for (int what : noSuch) {
            due(x.game(0, what), BAD);
        }
        int[] noMesh = {-1, 1, 5, LEAST, GREATEST};
        for (int mesh : noMesh) {
            due(x.game(mesh, 0), BAD);
            due(x.game(mesh, 1), BAD);
        }
        due(new TalkStrainer().game(0, 0), BAD);
        for (int n = 1; n <= 4; n++) {
            due(x.game(n, 0), BAD);
            x.mesh(n);
            due(x.game(n, 0), 1);
        }
        due(x.game(5, 0), BAD);
    }

    static void gameOfNoWords() {
        sentence(26, "who can say none has lost: whether who begins wins (1, 0); with which WORD (the least; NOT: none).");
        TalkStrainer x = sizes(0, "");
        due(x.game(0, 0), 0);
        due(x.game(0, 1), NOT);
        x.word(0, 0);
        due(x.game(0, 0), 1);
        due(x.game(0, 1), 0);
        x.word(0, 0);
        due(x.game(0, 0), 0);
        due(x.game(0, 1), NOT);
        tell(x, "0");
        due(x.game(0, 0), 0);
        due(x.game(0, 1), NOT);
        // of those by which the first one wins the least
        TalkStrainer y = sizes(4, "p=0|p=1&s<1");
        due(y.game(0, 1), 0);
        y.mend(0, 0, 1);
        due(y.game(0, 1), 0);
        y.mend(0, 0, 4);
        y.mend(2, 0, 0);
        due(y.game(0, 0), 1);
        due(y.game(0, 1), 2);
        tell(y, "p=0&s>2|p=1&s<1");
        due(y.game(0, 0), 0);
        due(y.game(0, 1), NOT);
    }

    static void gameOfWords0To9() {
        sentence(26, "each one of WORDS 0 .. 9 (that are there)");
        for (int many = 8; many <= 12; many++) {
            TalkStrainer x = sizes(many, "");
            due(x.game(0, 0), Math.min(many, 10) % 2);
            due(x.game(0, 1), Math.min(many, 10) % 2 == 1 ? 0 : NOT);
        }
        TalkStrainer x = new TalkStrainer();
        x.mesh(0);
        tell(x, "s");
        for (int n = 0; n < 12; n++) {
            x.word(0, 0);
        }
        due(x.game(0, 1), NOT);
        x.mend(10, 0, 1);
        due(x.game(0, 1), NOT);
        due(x.game(0, 0), 0);
        x.mend(10, 0, 0);
        x.mend(11, 0, 1);
        due(x.game(0, 1), NOT);
        x.mend(9, 0, 1);
        due(x.game(0, 1), 9);
        due(x.game(0, 0), 1);
    }

    static void gameEachWordOnce() {
        sentence(26, "that was not said yet and passes at its place (0 on; nothing is left: what would not pass may not be said)");
        TalkStrainer x = sizes(3, "!s");
        due(x.game(0, 0), 1);
        due(x.game(0, 1), 0);
        tell(x, "s<2");
        due(x.game(0, 0), 0);
        // places are counted from 0 on
        tell(x, "p<1");
        due(x.game(0, 0), 1);
        tell(x, "p<2");
        due(x.game(0, 0), 0);
        tell(x, "p>0");
        due(x.game(0, 0), 0);
        due(x.game(0, 1), NOT);
        tell(x, "p<3");
        due(x.game(0, 0), 1);
        tell(x, "p<2|l");
        due(x.game(0, 0), 0);
        // what lies in the mesh in deed is not there
        tell(x, "l");
        lay(x, 0, 0, 0);
        x.speak(0, 0);
        due(x.of(0, 8), 1);
        due(x.game(0, 0), 0);
    }

    static void gameUpToTheTenthPlace() {
        sentence(26, "passes at its place (0 on;");
        TalkStrainer x = sizes(10, "");
        for (int places = 0; places <= 12; places++) {
            tell(x, "p<" + places);
            due(x.game(0, 0), Math.min(places, 10) % 2);
        }
        // a tenth word that passes at place 9 alone is left for who speaks second
        tell(x, "s<9&p<9|s=9&p=9");
        due(x.game(0, 0), 0);
        tell(x, "s<9&p<9|s=9&p=10");
        due(x.game(0, 0), 1);
    }

    // ---- 27: drawn

    static void drawnEveningsAndSayings() {
        sentence(27, "n evenings (1 .. 30) of m SAYINGS (1 .. 20) of 4 WORDS");
        sentence(27, "DRAWN (nm: 100 n and m):");
        TalkStrainer x = sizes(1, "0");
        int[] told = {101, 120, 3001, 3020, 102, 201};
        int[] left = {4, 80, 120, 2400, 8, 8};
        for (int n = 0; n < told.length; n++) {
            due(x.drawn(7, told[n], 0, 0), left[n]);
        }
        int[] bad = {0, 1, 20, 99, 100, 121, 199, 200, 221, 3000, 3021, 3099, 3100, 3101, 3120, 10101, -1, -101, -120, -3020, LEAST, GREATEST};
        for (int nm : bad) {
            due(x.drawn(7, nm, 0, 0), BAD);
            due(x.drawn(7, nm, 0, 1), BAD);
        }
    }

    static void drawnWhat() {
        sentence(27, "left (what 0), HURTS (1). BAD.");
        TalkStrainer x = sizes(1, "");
        x.mend(0, 1, 9);
        x.person(9);
        due(x.drawn(1, 101, 0, 0), 0);
        due(x.drawn(1, 101, 0, 1), 1);
        int[] noSuch = {-1, 2, LEAST, GREATEST};
        for (int what : noSuch) {
            due(x.drawn(1, 101, 0, what), BAD);
        }
        int[] noMesh = {-1, 1, 5, LEAST, GREATEST};
        for (int mesh : noMesh) {
            due(x.drawn(1, 101, mesh, 0), BAD);
            due(x.drawn(1, 101, mesh, 1), BAD);
        }
        due(new TalkStrainer().drawn(1, 101, 0, 0), BAD);
        for (int n = 1; n <= 4; n++) {
            x.mesh(9);
        }
        due(x.drawn(1, 101, 4, 0), 4);
        due(x.drawn(1, 101, 4, 1), 0);
        due(x.drawn(1, 101, 5, 0), BAD);
    }

    /** How often a WORD is drawn, with z as a number without a sign that is cut off at 32 bits. */
    private static int draws(long seed, int words, int draws, int word) {
        long z = seed & 0xffffffffL;
        int many = 0;
        for (int n = 0; n < draws; n++) {
            z = (z * 1103515245L + 12345) & 0xffffffffL;
            many += (z >> 10) % words == word ? 1 : 0;
        }
        return many;
    }

    static void drawnByASeed() {
        sentence(27, "by a SEED: z = z * 1103515245 + 12345 (an int; SEED at first) ahead of each WORD: it is the (z >>> 10) % how many-th");
        int[] seeds = {0, 1, -1, 7, GREATEST, LEAST, GREATEST - 1, LEAST + 1, 1 << 30};
        int[] manyWords = {1, 2, 11, 12};
        for (int words : manyWords) {
            TalkStrainer x = sizes(0, "s");
            for (int n = 0; n < words; n++) {
                x.word(1, 0);
            }
            for (int word = 0; word < words; word += Math.max(1, words - 1)) {
                x.mend(word, 0, 0);
                for (int seed : seeds) {
                    due(x.drawn(seed, 101, 0, 0), draws(seed, words, 4, word));
                    due(x.drawn(seed, 2003, 0, 0), draws(seed, words, 240, word));
                }
                x.mend(word, 0, 1);
            }
        }
    }

    static void drawnThroughAMeshThatIsEmptyAtFirst() {
        sentence(27, "through a MESH, empty as an evening begins, not emptied in it (l goes on): WORDS left, all together");
        TalkStrainer x = sizes(1, "l>4");
        due(x.drawn(3, 101, 0, 0), 4);
        due(x.drawn(3, 102, 0, 0), 5);
        due(x.drawn(3, 120, 0, 0), 5);
        due(x.drawn(3, 201, 0, 0), 8);
        due(x.drawn(3, 202, 0, 0), 10);
        due(x.drawn(3, 3020, 0, 0), 150);
        tell(x, "l>79");
        due(x.drawn(3, 3020, 0, 0), 2400);
        tell(x, "l>78");
        due(x.drawn(3, 3020, 0, 0), 2370);
        // places begin with each saying, at 0
        tell(x, "p");
        due(x.drawn(3, 203, 0, 0), 6);
        tell(x, "p<3");
        due(x.drawn(3, 203, 0, 0), 6);
        tell(x, "p<4");
        due(x.drawn(3, 203, 0, 0), 0);
        // what lies in the mesh in deed is not there
        tell(x, "l");
        lay(x, 0, 0);
        x.speak(0, 0);
        due(x.of(0, 8), 1);
        due(x.drawn(3, 302, 0, 0), 3);
        due(x.of(0, 8), 1);
    }

    static void drawnSayingsThatHurt() {
        sentence(27, "how many SAYINGS HURT somebody as they came (no WORDS: nothing).");
        TalkStrainer x = new TalkStrainer();
        x.mesh(0);
        x.person(9);
        due(x.drawn(1, 3020, 0, 0), 0);
        due(x.drawn(1, 3020, 0, 1), 0);
        x.word(0, 1);
        due(x.drawn(1, 3020, 0, 0), 0);
        due(x.drawn(1, 3020, 0, 1), 600);
        x.mend(0, 6, 5);
        due(x.drawn(1, 101, 0, 1), 0);
        x.mend(0, 6, 6);
        due(x.drawn(1, 101, 0, 1), 1);
        // as they came: what is left hurts nobody
        tell(x, "p");
        due(x.drawn(1, 102, 0, 1), 0);
        x.mend(0, 6, 7);
        due(x.drawn(1, 102, 0, 1), 2);
        x.person(9);
        due(x.drawn(1, 102, 0, 1), 2);
        x.mend(0, 6, 0);
        due(x.drawn(1, 102, 0, 1), 0);
        x.mend(0, 4, 1);
        due(x.drawn(1, 102, 0, 1), 2);
        x.mend(0, 4, 2);
        due(x.drawn(1, 102, 0, 1), 0);
    }

    static void drawnSayingsThatHurtTwo() {
        sentence(27, "how many SAYINGS HURT somebody");
        TalkStrainer x = sizes(0, "1");
        x.person(9);
        x.person(9);
        word(x, 0, 9, 0, 2, 0);
        word(x, 0, 9, 0, 2, 1);
        // some of these sayings hurt one, some hurt both: each counts once
        due(x.drawn(1, 3020, 0, 1), 600);
        x.mend(1, 1, 0);
        due(draws(1, 2, 4, 0) > 0 ? 1 : 0, 1);
        due(x.drawn(1, 101, 0, 1), 1);
        x.mend(0, 1, 0);
        due(x.drawn(1, 3020, 0, 1), 0);
    }
}
