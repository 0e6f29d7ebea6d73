/** Boundary cases of sayings in thought: promises 11 to 18. */
final class SayingBoundaries extends Sentences {
    interface Ask {
        long of(TalkStrainer x, int shelf);
    }

    /** Whether a call takes SHELVES 0 to 5, and just ROWS of bytes; x has one WORD and one MESH. */
    static void shelfOfASaying(long bad, long nothing, long other, Ask ask) {
        TalkStrainer x = sizes(1, "");
        x.body(0);
        int[] noShelves = {-1, 6, LEAST, GREATEST};
        for (int shelf : noShelves) {
            due(ask.of(x, shelf), bad);
        }
        for (int shelf = 0; shelf <= 5; shelf++) {
            due(ask.of(x, shelf), nothing);
            for (int sort = 1; sort <= 4; sort++) {
                x.row(shelf, sort, 2);
                due(ask.of(x, shelf), other);
            }
            x.keep(shelf, 0);
            due(ask.of(x, shelf), other);
            lay(x, shelf, 0, 0);
            long answer = ask.of(x, shelf);
            due(answer == bad || answer == nothing || answer == other ? 0 : 1, 1);
            x.keep(shelf, -1);
            due(ask.of(x, shelf), nothing);
        }
    }

    interface AskThrough {
        long of(TalkStrainer x, int mesh);
    }

    /** Whether a call takes just MESHES that there are, and -1 for none; on SHELF 0 there is a SAYING. */
    static void meshOrNone(long bad, AskThrough ask) {
        for (int meshes = 0; meshes <= 5; meshes++) {
            TalkStrainer x = new TalkStrainer();
            x.word(0, 0);
            for (int n = 0; n < meshes; n++) {
                x.mesh(0);
            }
            lay(x, 0, 0, 0);
            due(ask.of(x, -2), bad);
            due(ask.of(x, meshes), bad);
            due(ask.of(x, LEAST), bad);
            due(ask.of(x, GREATEST), bad);
            due(ask.of(x, -1) == bad ? 0 : 1, 1);
            for (int mesh = 0; mesh < meshes; mesh++) {
                due(ask.of(x, mesh) == bad ? 0 : 1, 1);
            }
        }
    }

    private static final String A_SAYING_ON_A_SHELF =
        "sayings in thought (a SAYING on a SHELF; BAD, -11, -12 (no ROW of bytes)).";

    // ---- 11: through

    static void throughAShelf() {
        sentence(11, A_SAYING_ON_A_SHELF);
        for (int what = 0; what <= 1; what++) {
            int asked = what;
            shelfOfASaying(BAD, NOTHING_THERE, OTHER_KIND, (x, shelf) -> x.through(shelf, 0, asked));
        }
    }

    static void throughAMeshOrNone() {
        sentence(11, "IN THOUGHT, a SAYING through a MESH (-1: none, all passes)");
        meshOrNone(BAD, (x, mesh) -> x.through(0, mesh, 0));
        TalkStrainer x = sizes(2, "0");
        lay(x, 0, 0, 1);
        due(x.through(0, -1, 0), 2);
        due(x.through(0, 0, 0), 0);
        due(x.through(0, -1, 1), 0);
        due(x.through(0, 0, 1), 2);
    }

    static void throughWhat() {
        sentence(11, "THROUGH a MESH: how many come (what 0), are left (1), SENSE (2), whom it HURTS as it comes (3), unstrained (4), HARM left (5).");
        TalkStrainer x = new TalkStrainer();
        word(x, 0, 1, 0, 0, 0);
        word(x, 0, 1, 0, 1, 0);
        word(x, 9, 9, 0, 2, 1);
        x.mesh(9);
        x.person(9);
        x.person(9);
        lay(x, 0, 0, 1, 2);
        int[] due = {2, 1, 1, 1, 3, 9};
        for (int what = 0; what <= 5; what++) {
            due(x.through(0, 0, what), due[what]);
        }
        lay(x, 0);
        for (int what = 0; what <= 5; what++) {
            due(x.through(0, 0, what), 0);
        }
        int[] noSuch = {-1, 6, LEAST, GREATEST};
        for (int what : noSuch) {
            due(x.through(0, 0, what), BAD);
            due(x.through(1, 0, what), BAD);
        }
    }

    static void aSayingHasTwelveWords() {
        sentence(11, "A SAYING: a ROW of bytes on a SHELF: WORDS, one behind the other (12 at most; it ends with what is no WORD).");
        int[] lengths = {0, 1, 11, 12, 13, 60};
        int[] words = {0, 1, 11, 12, 12, 12};
        for (int n = 0; n < lengths.length; n++) {
            TalkStrainer x = sizes(1, "1");
            x.row(0, 0, lengths[n]);
            due(x.through(0, -1, 0), words[n]);
            due(x.through(0, 0, 0), words[n]);
            tell(x, "0");
            due(x.through(0, 0, 1), words[n]);
            tell(x, "p=12");
            due(x.through(0, 0, 0), 0);
            tell(x, "p=11");
            due(x.through(0, 0, 0), words[n] == 12 ? 1 : 0);
        }
    }

    static void aSayingEndsWithWhatIsNoWord() {
        sentence(11, "it ends with what is no WORD");
        for (int many = 0; many <= 12; many += 4) {
            TalkStrainer x = sizes(many, "");
            lay(x, 0, 0, many - 1, 0);
            due(x.through(0, -1, 0), many == 0 ? 0 : 3);
            int[] none = {many, many + 1, -1, -128, 127};
            for (int end : none) {
                x.put(0, 1, end);
                due(x.through(0, -1, 0), many == 0 ? 0 : 1);
            }
        }
        TalkStrainer x = sizes(11, "");
        lay(x, 0, 10, 11, 10);
        due(x.through(0, -1, 0), 1);
        x.word(0, 0);
        due(x.through(0, -1, 0), 3);
        x.put(0, 0, 12);
        due(x.through(0, -1, 0), 0);
    }

    static void inThoughtEachMeshIsEmpty() {
        sentence(11, "THROUGH a MESH: WORD by WORD; in thought each MESH is empty at first.");
        TalkStrainer x = sizes(1, "l<2?0;1");
        lay(x, 0, 0, 0, 0, 0);
        for (int time = 0; time < 2; time++) {
            due(x.through(0, 0, 0), 2);
            due(x.through(0, 0, 1), 2);
        }
        due(x.speak(0, 0), 2);
        due(x.of(0, 8), 2);
        due(x.through(0, 0, 0), 2);
        due(x.speak(0, 0), 4);
        due(x.through(0, 0, 1), 2);
        due(x.of(0, 8), 2);
    }

    static void theFirstWordFindsNothingLeft() {
        sentence(11, "in thought each MESH is empty at first.");
        TalkStrainer x = passesIfNothingIsLeft();
        due(x.of(0, 8), 2);
        due(x.through(0, 0, 0), 2);
        due(x.through(0, 0, 1), 0);
        due(x.speak(0, 0), 0);
        sentence(12, "in thought each MESH is empty at first.");
        due(x.nth(0, 0, 1, 0), 1);
        due(x.nth(0, 0, 0, 1), NOT);
        sentence(13, "in thought each MESH is empty at first.");
        due(x.several(0, 0), 2);
        due(x.several(0, 1), 0);
        sentence(15, "in thought each MESH is empty at first.");
        due(x.finest(0), 9);
        sentence(16, "in thought each MESH is empty at first.");
        due(x.keeps(0), 1);
        sentence(17, "in thought each MESH is empty at first.");
        x.mesh(1);
        tell(x, "f?1;!l");
        due(x.leastLost(0), 0);
        x.mend(0, 5, 1);
        x.mend(1, 5, 0);
        due(x.leastLost(0), 0);
        tell(x, "f?0;!l");
        due(x.leastLost(0), 1);
    }

    /** A word of each sort, as number. */
    private static TalkStrainer sorts() {
        TalkStrainer x = new TalkStrainer();
        for (int sort = 0; sort <= 2; sort++) {
            word(x, 0, 0, 0, sort, 0);
        }
        return x;
    }

    static void senseWantsTwoWords() {
        sentence(11, "(two WORDS at least)");
        TalkStrainer x = sorts();
        int[] sense = {0, 0, 1, 1};
        int[] words = {0, 1, 2, 2, 2, 2, 2, 2, 2, 2, 2, 2};
        for (int n = 0; n <= 3; n++) {
            lay(x, 0, java.util.Arrays.copyOf(words, n));
            due(x.through(0, -1, 2), sense[n]);
        }
        lay(x, 0, words);
        due(x.through(0, -1, 2), 1);
    }

    static void senseBySorts() {
        sentence(11, "It makes SENSE, if its first WORD is of SORT 0, its second one of SORT 1, all others of SORT 2");
        int[] places = {0, 1, 2, 3, 11};
        for (int place : places) {
            for (int sort = 0; sort <= 2; sort++) {
                TalkStrainer x = sorts();
                lay(x, 0, 0, 1, 2, 2, 2, 2, 2, 2, 2, 2, 2, 2);
                x.put(0, place, sort);
                due(x.through(0, -1, 2), sort == Math.min(place, 2) ? 1 : 0);
            }
        }
        // as it comes, not as it is said
        TalkStrainer x = sorts();
        x.mesh(0);
        lay(x, 0, 2, 0, 1);
        due(x.through(0, -1, 2), 0);
        tell(x, "p");
        due(x.through(0, 0, 2), 1);
        tell(x, "p>1");
        due(x.through(0, 0, 2), 0);
    }

    static void hurtsAbove9LessThin() {
        sentence(11, "It HURTS one of the PEOPLE, if all HARM of its WORDS MEANT of that one, less all their SWEET, is more than 9 less THIN.");
        for (int thin = 0; thin <= 9; thin++) {
            TalkStrainer x = new TalkStrainer();
            word(x, 0, 9 - thin, 0, 2, 0);
            word(x, 0, 1, 0, 2, 0);
            word(x, 0, 0, 1, 2, 0);
            word(x, 0, 9, 0, 2, 1);
            x.person(thin);
            lay(x, 0, 0, 3);
            due(x.through(0, -1, 4), 0);
            lay(x, 0, 0, 1);
            due(x.through(0, -1, 4), 1);
            due(x.through(0, -1, 3), 1);
            lay(x, 0, 0, 1, 2);
            due(x.through(0, -1, 4), 0);
            lay(x, 0, 2, 0, 1, 1);
            due(x.through(0, -1, 4), 1);
        }
    }

    static void hurtsJustPeopleThatThereAre() {
        sentence(11, "It HURTS one of the PEOPLE");
        TalkStrainer x = new TalkStrainer();
        for (int one = 0; one <= 5; one++) {
            word(x, 0, 9, 0, 2, one);
        }
        lay(x, 0, 0, 1, 2, 3, 4, 5);
        for (int people = 0; people <= 6; people++) {
            due(x.through(0, -1, 3), (1 << people) - 1);
            due(x.through(0, -1, 4), (1 << people) - 1);
            x.person(9);
        }
        lay(x, 0, 5);
        due(x.through(0, -1, 3), 32);
        lay(x, 0);
        due(x.through(0, -1, 3), 0);
    }

    // ---- 12: nth

    static void nthOnAShelf() {
        sentence(12, A_SAYING_ON_A_SHELF);
        shelfOfASaying(BAD, NOTHING_THERE, OTHER_KIND, (x, shelf) -> x.nth(shelf, 0, 0, 0));
        sentence(12, "(-1: none, all passes)");
        meshOrNone(BAD, (x, mesh) -> x.nth(0, mesh, 0, 0));
    }

    static void nthOfWhat() {
        sentence(12, "The k-th that comes (what 0), that is left (1).");
        TalkStrainer x = sizes(4, "s>1");
        lay(x, 0, 3, 0, 2, 1);
        due(x.nth(0, 0, 0, 0), 3);
        due(x.nth(0, 0, 1, 0), 2);
        due(x.nth(0, 0, 0, 1), 0);
        due(x.nth(0, 0, 1, 1), 1);
        int[] noSuch = {-1, 2, LEAST, GREATEST};
        for (int what : noSuch) {
            due(x.nth(0, 0, 0, what), BAD);
            due(x.nth(1, 0, 0, what), BAD);
        }
    }

    static void nthBeyondThem() {
        sentence(12, "NOT: there are not as many.");
        TalkStrainer x = sizes(12, "1");
        lay(x, 0, 11, 10, 9, 8, 7, 6, 5, 4, 3, 2, 1, 0);
        for (int mesh = -1; mesh <= 0; mesh++) {
            due(x.nth(0, mesh, -1, 0), BAD);
            due(x.nth(0, mesh, 0, 0), 11);
            due(x.nth(0, mesh, 11, 0), 0);
            due(x.nth(0, mesh, 12, 0), NOT);
            due(x.nth(0, mesh, 13, 0), NOT);
            due(x.nth(0, mesh, GREATEST, 0), NOT);
            due(x.nth(0, mesh, LEAST, 0), BAD);
            due(x.nth(0, mesh, 0, 1), NOT);
        }
        tell(x, "p<5");
        due(x.nth(0, 0, 4, 0), 7);
        due(x.nth(0, 0, 5, 0), NOT);
        due(x.nth(0, 0, 6, 1), 0);
        due(x.nth(0, 0, 7, 1), NOT);
        lay(x, 0);
        due(x.nth(0, 0, 0, 0), NOT);
        due(x.nth(0, 0, 0, 1), NOT);
    }

    // ---- 13: several

    /** Two SHELVES in one number, each 0 to 5, and both ROWS of bytes; x has a WORD and a MESH. */
    static void twoShelves(long bad, long nothing, long other, Ask ask) {
        TalkStrainer x = sizes(1, "");
        x.body(0);
        for (int shelf = 0; shelf <= 4; shelf++) {
            x.row(shelf, 0, 2);
        }
        int[] noShelves = {-1, -10, -55, 6, 9, 16, 46, 60, 61, 64, 70, 100, 110, 1000, LEAST, GREATEST};
        for (int two : noShelves) {
            due(ask.of(x, two), bad);
        }
        int[] withFive = {5, 15, 45, 50, 51, 54, 55};
        for (int two : withFive) {
            due(ask.of(x, two), nothing);
        }
        for (int sort = 1; sort <= 4; sort++) {
            x.row(5, sort, 2);
            for (int two : withFive) {
                due(ask.of(x, two), other);
            }
        }
        x.keep(5, 0);
        x.keep(4, -1);
        due(ask.of(x, 50), other);
        due(ask.of(x, 5), other);
        due(ask.of(x, 54), nothing);
        due(ask.of(x, 45), nothing);
        due(ask.of(x, 44), nothing);
        x.row(4, 0, 2);
        x.row(5, 0, 2);
        for (int two : withFive) {
            long answer = ask.of(x, two);
            due(answer == bad || answer == nothing || answer == other ? 0 : 1, 1);
        }
    }

    static void severalOnTwoShelves() {
        sentence(13, A_SAYING_ON_A_SHELF);
        sentence(13, "SEVERAL (sm: 10 times the SHELF of the SAYING, and that of the MESHES):");
        twoShelves(BAD, NOTHING_THERE, OTHER_KIND, (x, sm) -> x.several(sm, 0));
        TalkStrainer x = sizes(1, "");
        lay(x, 0, 0, 0, 0);
        lay(x, 1);
        due(x.several(1, 0), 3);
        due(x.several(10, 0), 0);
        // on SHELF n a ROW of n + 1 bytes 0; each mesh keeps the first word
        tell(x, "p");
        for (int shelf = 0; shelf <= 5; shelf++) {
            x.row(shelf, 0, shelf + 1);
        }
        for (int saying = 0; saying <= 5; saying++) {
            for (int meshes = 0; meshes <= 5; meshes++) {
                due(x.several(10 * saying + meshes, 0), Math.max(0, saying - meshes));
            }
        }
    }

    static void severalWhat() {
        sentence(13, "how many come (what 0), HARM left (1).");
        TalkStrainer x = sizes(2, "s");
        x.mend(0, 1, 9);
        lay(x, 0, 0, 1, 0);
        lay(x, 1, 0);
        due(x.several(1, 0), 1);
        due(x.several(1, 1), 18);
        int[] noSuch = {-1, 2, LEAST, GREATEST};
        for (int what : noSuch) {
            due(x.several(1, what), BAD);
            due(x.several(2, what), BAD);
        }
    }

    static void meshesEndWithWhatIsNone() {
        sentence(13, "SEVERAL: through a ROW of MESHES (bytes; it ends with what is none): how many come; HARM left in all.");
        TalkStrainer x = sizes(3, "p");
        for (int n = 0; n < 3; n++) {
            x.mend(n, 1, 1 + n);
        }
        x.mesh(1);
        lay(x, 0, 0, 1, 2);
        lay(x, 1);
        due(x.several(1, 0), 3);
        due(x.several(1, 1), 0);
        lay(x, 1, 0);
        due(x.several(1, 0), 2);
        due(x.several(1, 1), 1);
        lay(x, 1, 0, 1);
        due(x.several(1, 0), 1);
        due(x.several(1, 1), 3);
        int[] none = {-1, 2, 3, 5, 127, -128};
        for (int end : none) {
            lay(x, 1, 0, end, 1);
            due(x.several(1, 0), 2);
            due(x.several(1, 1), 1);
            lay(x, 1, end, 0);
            due(x.several(1, 0), 3);
            due(x.several(1, 1), 0);
        }
        lay(x, 1, 0, 2, 1);
        due(x.several(1, 0), 2);
        x.mesh(1);
        due(x.several(1, 0), 0);
        due(x.several(1, 1), 6);
    }

    static void upTo60Meshes() {
        sentence(13, "through a ROW of MESHES (bytes; it ends with what is none)");
        // each mesh keeps the first word that comes to it
        TalkStrainer x = sizes(1, "p");
        x.mend(0, 1, 2);
        x.row(0, 0, 12);
        int[] meshes = {0, 1, 11, 12, 13, 60};
        for (int many : meshes) {
            x.row(1, 0, many);
            due(x.several(1, 0), 12 - Math.min(many, 12));
            due(x.several(1, 1), 2 * Math.min(many, 12));
        }
        // the 60th mesh is gone through: just that one lets nothing pass
        TalkStrainer y = sizes(1, "f<1");
        y.mesh(1);
        y.row(0, 0, 12);
        y.row(1, 0, 60);
        due(y.several(1, 0), 12);
        y.put(1, 59, 1);
        due(y.several(1, 0), 0);
    }

    static void placesAnew() {
        sentence(13, "what passes one is the SAYING for the next one (places anew).");
        TalkStrainer x = sizes(4, "p=f");
        x.mesh(0);
        x.mesh(1);
        lay(x, 0, 3, 2);
        lay(x, 1, 0, 1);
        due(x.several(1, 0), 1);
        lay(x, 1, 2);
        due(x.several(1, 0), 1);
        lay(x, 1, 2, 0);
        due(x.several(1, 0), 1);
        lay(x, 1, 2, 2);
        due(x.several(1, 0), 0);
        // and each mesh is empty as the saying comes to it
        tell(x, "l");
        lay(x, 0, 0, 0, 0);
        due(x.several(1, 0), 1);
        x.speak(0, 2);
        due(x.several(1, 0), 1);
    }

    // ---- 14: say

    static void sayOnAShelf() {
        sentence(14, A_SAYING_ON_A_SHELF);
        shelfOfASaying(BAD, NOTHING_THERE, OTHER_KIND, (x, shelf) -> {
            x.mend(0, 3, 0);
            if (x.count(0) == 1) {
                x.word(0, 0);
                x.mend(1, 3, 1);
            }
            if (x.element(shelf, 1) == 0) {
                x.put(shelf, 1, 1);
            }
            return x.say(shelf, 0, -1);
        });
        sentence(14, "(-1: none, all passes)");
        meshOrNone(BAD, (x, mesh) -> x.say(0, mesh, -1));
    }

    static void sayHowManyOrTheKth() {
        sentence(14, "SAY: how many (k -1), the k-th (NOT: there are not as many, too).");
        TalkStrainer x = sorts();
        lay(x, 0, 0, 1, 2);
        due(x.say(0, -1, -2), BAD);
        due(x.say(0, -1, LEAST), BAD);
        due(x.say(0, -1, -1), 3);
        due(x.say(0, -1, 0), 0);
        due(x.say(0, -1, 2), 2);
        due(x.say(0, -1, 3), NOT);
        due(x.say(0, -1, 10), NOT);
        due(x.say(0, -1, GREATEST), NOT);
    }

    static void sayNothing() {
        sentence(14, "NOT.");
        TalkStrainer x = new TalkStrainer();
        x.row(0, 0, 0);
        due(x.say(0, -1, -1), NOT);
        due(x.say(0, -1, 0), NOT);
        word(x, 0, 0, 0, 0, 0);
        word(x, 1, 0, 0, 1, 0);
        x.mesh(0);
        // all passes, so that nothing comes just of nothing; it makes no sense
        due(x.say(0, -1, -1), NOT);
        due(x.say(0, -1, -2), BAD);
        due(x.say(0, -1, 0), NOT);
        // all is left: two words make sense, and nothing of them comes
        tell(x, "0");
        due(x.say(0, 0, -1), 2);
        due(x.say(0, 0, 1), 1);
        due(x.say(0, 0, 2), NOT);
        lay(x, 0, 0);
        due(x.say(0, 0, -1), NOT);
        // one name alone makes no sense, the deed behind it must be left
        tell(x, "!s");
        due(x.say(0, 0, -1), 2);
        tell(x, "1");
        due(x.say(0, 0, -1), NOT);
    }

    static void sayTenWordsAtMost() {
        sentence(14, "the shortest SAYING (10 WORDS at most; WORDS may come again) that makes SENSE as it is said");
        TalkStrainer x = sorts();
        x.mesh(0);
        for (int last = 1; last <= 11; last++) {
            tell(x, "p=" + last);
            lay(x, 0, last == 1 ? 1 : 2);
            due(x.say(0, 0, -1), last <= 9 ? last + 1 : NOT);
            due(x.say(0, 0, last), last <= 9 ? Math.min(last, 2) : NOT);
            due(x.say(0, 0, last + 1), NOT);
        }
        int[] told = {0, 1, 2, 2, 2, 2, 2, 2, 2, 2, 2, 2};
        for (int n = 9; n <= 12; n++) {
            lay(x, 0, java.util.Arrays.copyOf(told, n));
            due(x.say(0, -1, -1), n <= 10 ? n : NOT);
            due(x.say(0, -1, n - 1), n <= 10 ? 2 : NOT);
        }
        // the least that makes sense is two words
        lay(x, 0, 0, 1);
        due(x.say(0, -1, -1), 2);
        lay(x, 0, 0);
        due(x.say(0, -1, -1), NOT);
    }

    static void sayTheFirstByNumbers() {
        sentence(14, "the k-th (of like ones the first by numbers)");
        TalkStrainer x = new TalkStrainer();
        int[] sorts = {2, 1, 0, 0, 1, 2};
        for (int sort : sorts) {
            word(x, 0, 0, 0, sort, 0);
        }
        x.mesh(0);
        tell(x, "p=3");
        lay(x, 0, 5);
        int[] due = {2, 1, 0, 5, NOT};
        for (int k = 0; k <= 4; k++) {
            due(x.say(0, 0, k), due[k]);
        }
        // the first that can still be gone on with, not the first of all
        x.mend(2, 0, 1);
        tell(x, "s|p=3");
        due(x.say(0, 0, 0), 3);
        due(x.say(0, 0, -1), 4);
    }

    static void sayWantsANameAndADeed() {
        sentence(14, "that makes SENSE as it is said");
        // all is left, so that any two words that make sense do; but one sort is missing
        for (int missing = 0; missing <= 2; missing++) {
            TalkStrainer x = new TalkStrainer();
            x.mesh(0);
            tell(x, "p>1");
            for (int n = 0; n < 12; n++) {
                int sort = n % 3;
                word(x, 0, 0, 0, sort == missing ? (missing + 1) % 3 : sort, 0);
            }
            lay(x, 0);
            due(x.say(0, 0, -1), missing == 2 ? 2 : NOT);
            due(x.say(0, 0, 0), missing == 2 ? 0 : NOT);
            lay(x, 0, 2);
            due(x.say(0, 0, -1), NOT);
            x.mend(11, 3, missing);
            lay(x, 0, missing == 2 ? 11 : missing == 1 ? 5 : 2);
            due(x.say(0, 0, -1), 3);
            due(x.say(0, 0, missing), 11);
        }
        TalkStrainer y = new TalkStrainer();
        y.mesh(0);
        tell(y, "0");
        word(y, 0, 0, 0, 1, 0);
        lay(y, 0);
        due(y.say(0, 0, -1), NOT);
        word(y, 0, 0, 0, 0, 0);
        due(y.say(0, 0, -1), 2);
        due(y.say(0, 0, 0), 1);
    }

    static void sayCountsWhatIsLeft() {
        sentence(14, "through a MESH, of which just a told ROW of WORDS (a SAYING) comes: how many WORDS");
        TalkStrainer x = sorts();
        x.mesh(0);
        lay(x, 0, 2);
        tell(x, "l>2");
        due(x.say(0, 0, -1), 4);
        tell(x, "l>8");
        due(x.say(0, 0, -1), 10);
        tell(x, "l>9");
        due(x.say(0, 0, -1), NOT);
        tell(x, "l>1");
        lay(x, 0, 2, 2, 2);
        due(x.say(0, 0, -1), 5);
        // two are left, and what comes then is not
        tell(x, "l=2");
        due(x.say(0, 0, -1), 5);
        lay(x, 0, 2, 2);
        due(x.say(0, 0, -1), 4);
        tell(x, "!p|l=2");
        lay(x, 0, 0, 2, 2);
        due(x.say(0, 0, -1), 5);
        due(x.say(0, 0, 2), 2);
        word(x, 0, 0, 0, 2, 0);
        lay(x, 0, 0, 3, 2);
        int[] due = {0, 1, 2, 3, 2};
        for (int k = 0; k < 5; k++) {
            due(x.say(0, 0, k), due[k]);
        }
        x.mend(3, 3, 0);
        tell(x, "l>1");
        // the told saying ends with what is no word
        lay(x, 0, 2, 4, 2);
        due(x.say(0, 0, -1), 3);
        // what lies in the mesh in deed is not there in thought
        lay(x, 1, 0, 0);
        x.speak(1, 0);
        due(x.of(0, 8), 2);
        due(x.say(0, 0, -1), 3);
    }

    // ---- 15: finest

    static void finestOnAShelf() {
        sentence(15, A_SAYING_ON_A_SHELF);
        shelfOfASaying(BAD, NOTHING_THERE, OTHER_KIND, (x, shelf) -> x.finest(shelf));
    }

    static void finest0To9() {
        sentence(15, "FINEST: the greatest FINE (0 .. 9) by which all of a SAYING passes; NOT.");
        TalkStrainer x = new TalkStrainer();
        x.word(9, 0);
        lay(x, 0, 0);
        // BENDS less FINE must be 9 at least
        int[] bends = {20, 19, 18, 17, 10, 9, 8, 0};
        int[] due = {9, 9, 9, 8, 1, 0, NOT, NOT};
        for (int n = 0; n < bends.length; n++) {
            x.mend(0, 7, bends[n]);
            due(x.finest(0), due[n]);
        }
        lay(x, 0);
        due(x.finest(0), 9);
        lay(x, 0, 1);
        due(x.finest(0), 9);
    }

    static void finestOfAll() {
        sentence(15, "FINEST. NOT.");
        TalkStrainer x = new TalkStrainer();
        x.word(1, 0);
        lay(x, 0, 0, 0);
        String[] laws = {"f=9", "f=0", "f<5", "0", "f>9", "f|p", "f<9-l", "p<1", "p<2", "f-3=p*5", "f=3|f=6"};
        int[] due = {9, 0, 4, NOT, NOT, 9, 8, NOT, 9, NOT, 6};
        for (int n = 0; n < laws.length; n++) {
            tell(x, laws[n]);
            due(x.finest(0), due[n]);
        }
        // the last word counts as the first does
        tell(x, "p<11");
        x.row(0, 0, 11);
        due(x.finest(0), 9);
        x.row(0, 0, 12);
        due(x.finest(0), NOT);
    }

    // ---- 16: keeps

    static void keepsOfASet() {
        sentence(16, "KEEPS: bits. BAD.");
        sentence(16, "a told set (bits 0 .. 4095)");
        TalkStrainer x = sizes(12, "0");
        due(x.keeps(-1), BAD);
        due(x.keeps(LEAST), BAD);
        due(x.keeps(0), 0);
        due(x.keeps(4094), 0);
        due(x.keeps(4095), 1);
        due(x.keeps(4096), BAD);
        due(x.keeps(GREATEST), BAD);
        tell(x, "1");
        due(x.keeps(0), 1);
        due(x.keeps(1), 0);
        due(x.keeps(2048), 0);
        tell(x, "s<9");
        due(x.keeps(512), 1);
    }

    static void keepsJustThese() {
        sentence(16, "let no WORD of a told set");
        sentence(16, "pass, if said alone, and all others that there are.");
        TalkStrainer x = new TalkStrainer();
        due(x.keeps(0), 0);
        due(x.keeps(4095), 0);
        for (int n = 0; n < 5; n++) {
            x.mesh(5 + n);
        }
        // without words each mesh does
        due(x.keeps(0), 31);
        due(x.keeps(4095), 31);
        x.word(3, 0);
        x.word(4, 0);
        due(x.keeps(0), 1 + 2 + 4 + 8);
        due(x.keeps(2), 16);
        due(x.keeps(1), 0);
        due(x.keeps(3), 0);
        due(x.keeps(2 + 4 + 2048), 16);
        x.mend(0, 7, 11);
        due(x.keeps(2), 8);
        due(x.keeps(3), 16);
        // said alone: at place 0, with nothing left
        tell(x, "!p&!l&s>3");
        due(x.keeps(1), 31);
        lay(x, 0, 0, 0);
        x.speak(0, 0);
        due(x.keeps(1), 31);
        due(x.keeps(3), 0);
    }

    // ---- 17: least lost

    static void leastLostOnAShelf() {
        sentence(17, A_SAYING_ON_A_SHELF);
        shelfOfASaying(BAD, NOTHING_THERE, OTHER_KIND, (x, shelf) -> x.leastLost(shelf));
    }

    static void leastLostOrNot() {
        sentence(17, "LEAST LOST. NOT.");
        TalkStrainer x = new TalkStrainer();
        word(x, 9, 9, 0, 2, 0);
        lay(x, 0, 0);
        lay(x, 1);
        due(x.leastLost(0), NOT);
        due(x.leastLost(1), NOT);
        x.mesh(0);
        due(x.leastLost(1), 0);
        due(x.leastLost(0), 0);
        x.mend(0, 7, 18);
        due(x.leastLost(0), 0);
        x.person(0);
        due(x.leastLost(0), 0);
        x.mend(0, 6, 1);
        due(x.leastLost(0), NOT);
        x.mesh(1);
        due(x.leastLost(0), 1);
        x.mend(0, 7, 20);
        due(x.leastLost(0), NOT);
        lay(x, 0);
        due(x.leastLost(0), 0);
    }

    static void leastLostTheLeast() {
        sentence(17, "which MESH leaves least SWEET of a SAYING, of those by which it HURTS nobody (of like ones the least); NOT.");
        TalkStrainer x = new TalkStrainer();
        word(x, 4, 0, 2, 2, 0);
        word(x, 6, 0, 1, 2, 0);
        word(x, 8, 9, 0, 2, 1);
        tell(x, "s<f");
        x.person(9);
        x.person(9);
        lay(x, 0, 0, 1, 2);
        int[] fine = {3, 5, 5, 7, 7};
        int[] due = {0, 1, 1, 3, 3};
        for (int n = 0; n < 5; n++) {
            x.mesh(fine[n]);
            due(x.leastLost(0), due[n]);
        }
        // by FINE 9 nothing is lost, but the harm comes
        x.mend(0, 5, 9);
        due(x.leastLost(0), 3);
        x.mend(2, 1, 0);
        due(x.leastLost(0), 0);
        x.mend(4, 5, 9);
        due(x.leastLost(0), 0);
        x.mend(0, 5, 0);
        due(x.leastLost(0), 3);
        x.mend(2, 2, 1);
        due(x.leastLost(0), 4);
    }

    // ---- 18: most

    static void mostWhat() {
        sentence(18, "MOST: how many (what 0), which (1). BAD.");
        TalkStrainer x = new TalkStrainer();
        int[] noSuch = {-1, 2, LEAST, GREATEST};
        for (int what : noSuch) {
            due(x.most(what), BAD);
        }
        due(x.most(0), 0);
        due(x.most(1), 0);
        for (int n = 1; n <= 12; n++) {
            word(x, 9, 9, 0, 2, n % 6);
            due(x.most(0), n);
            due(x.most(1), (1 << n) - 1);
        }
        for (int n = 0; n < 6; n++) {
            x.person(9);
        }
        due(x.most(0), 0);
        due(x.most(1), 0);
        x.mend(11, 1, 0);
        due(x.most(0), 1);
        due(x.most(1), 2048);
    }

    static void mostThatHurtsNobody() {
        sentence(18, "MOST: the greatest number of unlike WORDS that, said unstrained together, HURT nobody: how many; which (bits; of like ones the least).");
        TalkStrainer x = new TalkStrainer();
        word(x, 0, 5, 0, 2, 0);
        word(x, 0, 4, 0, 2, 0);
        word(x, 0, 5, 0, 2, 0);
        x.person(0);
        due(x.most(0), 2);
        due(x.most(1), 3);
        x.mend(0, 6, 1);
        due(x.most(0), 1);
        due(x.most(1), 1);
        x.mend(0, 6, 4);
        due(x.most(1), 1);
        x.mend(0, 6, 5);
        due(x.most(0), 1);
        due(x.most(1), 2);
        x.mend(0, 6, 6);
        due(x.most(0), 0);
        due(x.most(1), 0);
        // a sweet word said together with them
        word(x, 0, 0, 6, 2, 0);
        due(x.most(0), 3);
        due(x.most(1), 1 + 2 + 8);
        x.mend(3, 4, 1);
        due(x.most(0), 1);
        due(x.most(1), 8);
        // unstrained: what a mesh lets pass is all the same
        x.mesh(9);
        tell(x, "0");
        due(x.most(1), 8);
    }
}
