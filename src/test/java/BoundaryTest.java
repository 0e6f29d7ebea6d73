/**
 * Each sentence of ../shared/DOC.md that names a boundary case: the case just at the boundary and just beside it.
 * The tests stand in src/test/boundaries; they name their sentences, and this one tells those that none of them names.
 */
public final class BoundaryTest {
    /** What the terms say without naming a boundary: headings, what a thing is, and which call is asked for it. */
    private static final String[] PLAIN = {
        "======== 1", "======== 2", "======== 3 WHAT WAS SAID: CAME and LEFT are SAYINGS on two SHELVES:", "======== 4 DRAWN:", "======== 5",
        "THROUGH a ROW of MESHES:",
        "how many WORDS come; the k-th that comes; how many are left; the k-th that is left; whether it makes SENSE as it comes; "
            + "whom it HURTS as it comes (bits), unstrained (bits); HARM that is left.",
        "SAY: the shortest", "; NOT. FINEST:", "KEEPS: which MESHES (bits)", "LEAST LOST: which MESH",
        "ALONE: how many SAYINGS there are of which just CAME comes and", "HOW FINE: by how many",
        "MEANT: by WORDS that are left of a SAYING:", "GAME: two speak by turns through an empty MESH,",
        "IN DEED: a SAYING", "LED: SAYINGS, WORDS that came, left,", "rinsings, HARM rinsed.", ", and DONE AGAIN", ", of KINDS:", ", a BODY, or a ROW",
        "All memory is the class's own.",
        "Ahead of the calls `word`, `words`, `mesh`, `person`, `mend`, `of`, `feed`, `law`, `lets` the interface says: ---- words, meshes, people.",
        "Ahead of the calls `through`, `nth`, `several`, `say`, `finest`, `keeps`, `leastLost`, `most` the interface says: ----",
        "Ahead of the calls `said`, `saidAt`, `alone`, `howFine`, `between`, `meant`, `likely`, `game`, `drawn` the interface says: ----",
        "Ahead of the calls `speak`, `rinse`, `led`, `image`, `back`, `undo`, `redo` the interface says: ---- in deed.",
        "Ahead of the calls `body`, `act`, `trace`, `keep`, `row`, `put`, `element`, `shift`, `taken`, `count` the interface says: ---- acts, shelves."};

    public static void main(String[] args) {
        Sentences.runAll(WordBoundaries.class);
        Sentences.runAll(SayingBoundaries.class);
        Sentences.runAll(SaidBoundaries.class);
        Sentences.runAll(DeedBoundaries.class);
        Sentences.runAll(ShelfBoundaries.class);
        Sentences.runAll(RefusalBoundaries.class);
        for (String words : PLAIN) {
            Sentences.plain(0, words);
        }
        if (Sentences.end() != 0) {
            System.exit(1);
        }
    }
}
