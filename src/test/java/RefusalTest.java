import java.util.List;

/**
 * Each call that the document refuses: what it throws, which exception comes first where several apply, and that
 * nothing changes but the row of causes. For the last one, the object that refused a call is compared with a twin
 * that was not asked.
 */
public final class RefusalTest {
    private static final String NO_PLACE = " = throws IndexOutOfBoundsException";
    private static final String WRONG = " = throws IllegalArgumentException";
    private static final String STATE = " = throws IllegalStateException";
    private static final String UNABLE = " = throws UnsupportedOperationException";
    private static final String MISSING = " = throws NoSuchElementException";

    /** Three islands. Two ships: one came to island 1 and dug, one to island 2 and did not; segment 1 is open. */
    private static final String RICH = """
        island(0, 0, 10); island(3, 4, 20); island(6, 8, 30)
        ship(); ship()
        find(0, 1, 0); find(1, 1, 1); plant(1, 1, 2, 5); find(2, 2, 6)
        6 times find(2, 0, 3)
        find(1, 0, 0); find(0, 1, 7)
        word(0, 0); word(1, 0); sail(0); dig(0)
        word(1, 0); word(2, 0); sail(1)
        strike(4)
        merge(1, 7) = throws NoSuchElementException
        word(2, 0); word(2, 9)
        """;
    /** As many islands, finds and ships as there can be; ship 0 has coins, ship 1 has none; the map has 4 words. */
    private static final String FULL = """
        11 times island(1, 1, 5); island(61, 81, 5)
        5 times ship()
        40 times find(0, 1, 3); 40 times find(1, 11, 4); 40 times find(2, 2, 5)
        word(1, 0); sail(1)
        merge(3, 40) = throws NoSuchElementException
        word(0, 0); word(1, 0); word(2, 0); word(0, 9)
        """;
    private static final String EMPTY = "";

    public static void main(String[] args) {
        promise02Island();
        promise03Find();
        promise04Ship();
        promise05Plant();
        promise05PlantsFirstException();
        promise07Segment();
        promise08Size();
        promise09Merge();
        promise10Storm();
        promise12SegmentOf();
        promises13To15Words();
        promises17To20TheTypedMap();
        promise21Weight();
        promise22Sail();
        promise23Dig();
        promise24Strike();
        promises25To29Numbers();
        promises30To32();
        Check.end("RefusalTest");
    }

    /** Nothing changes, and the row of causes stays. */
    private static void refused(String what, String before, String call) {
        String row = new Script(what).play(before).causes();
        refusedWith(row, what, before, call);
    }

    /** Nothing changes but the row of causes. */
    private static void refusedWith(String row, String what, String before, String call) {
        Script asked = new Script(what).play(before).play(call);
        Check.same(what + ": the row of causes behind it", row, asked.causes());
        List<String> want = new Script(what + ", not asked").play(before).look();
        List<String> got = asked.look();
        for (int i = 0; i < want.size() && i < got.size(); i++) {
            Check.same(what + ": what is seen behind it, row " + i, want.get(i), got.get(i));
        }
        Check.same(what + ": rows that are seen", String.valueOf(want.size()), String.valueOf(got.size()));
    }

    private static void promise02Island() {
        refused("2 island: x below 0", RICH, "island(-1, 0, 0)" + WRONG);
        refused("2 island: x above 99", RICH, "island(100, 0, 0)" + WRONG);
        refused("2 island: y below 0", RICH, "island(0, -1, 0)" + WRONG);
        refused("2 island: y above 99", RICH, "island(0, 100, 0)" + WRONG);
        refused("2 island: treasure below 0", RICH, "island(0, 0, -1)" + WRONG);
        refused("2 island: treasure above 999", RICH, "island(0, 0, 1000)" + WRONG);
        refused("2 island: there are 12", FULL, "island(0, 0, 0)" + STATE);
        refused("2 island: x out of range first, then that there are 12", FULL, "island(100, 0, 0)" + WRONG);
        refused("2 island: y out of range first, then that there are 12", FULL, "island(0, -1, 0)" + WRONG);
        refused("2 island: treasure out of range first, then that there are 12", FULL, "island(0, 0, 1000)" + WRONG);
    }

    private static void promise03Find() {
        refused("3 find: island below 0", RICH, "find(0, -1, 0)" + NO_PLACE);
        refused("3 find: island behind the last", RICH, "find(0, 3, 0)" + NO_PLACE);
        refused("3 find: island 12", FULL, "find(0, 12, 0)" + NO_PLACE);
        refused("3 find: no island at all", EMPTY, "find(0, 0, 0)" + NO_PLACE);
        refused("3 find: word below 0", RICH, "find(-1, 0, 0)" + WRONG);
        refused("3 find: word above 30", RICH, "find(31, 0, 0)" + WRONG);
        refused("3 find: place below 0", RICH, "find(0, 0, -1)" + WRONG);
        refused("3 find: place above 40", RICH, "find(0, 0, 41)" + WRONG);
        refused("3 find: there are 120", FULL, "find(0, 0, 0)" + STATE);
        refused("3 find: no island first, then the word", RICH, "find(31, 3, 0)" + NO_PLACE);
        refused("3 find: no island first, then the place", RICH, "find(0, 3, 41)" + NO_PLACE);
        refused("3 find: no island first, then that there are 120", FULL, "find(0, 12, 0)" + NO_PLACE);
        refused("3 find: the word first, then that there are 120", FULL, "find(31, 0, 0)" + WRONG);
        refused("3 find: the place first, then that there are 120", FULL, "find(0, 0, 41)" + WRONG);
    }

    private static void promise04Ship() {
        refused("4 ship: there are 5", FULL, "ship()" + STATE);
        refused("4 ship: no island", EMPTY, "ship()" + STATE);
        refused("4 ship: no island, but a row of causes and a map", "merge(0, 1)" + MISSING + "; word(0, 0)",
                "ship()" + STATE);
    }

    private static void promise05Plant() {
        refused("5 plant: ship below 0", RICH, "plant(-1, 0, 0, 0)" + NO_PLACE);
        refused("5 plant: ship behind the last", RICH, "plant(2, 0, 0, 0)" + NO_PLACE);
        refused("5 plant: ship 5", FULL, "plant(5, 0, 0, 0)" + NO_PLACE);
        refused("5 plant: no ship at all", "island(0, 0, 0)", "plant(0, 0, 0, 0)" + NO_PLACE);
        refused("5 plant: island below 0", RICH, "plant(0, 0, -1, 0)" + NO_PLACE);
        refused("5 plant: island behind the last", RICH, "plant(0, 0, 3, 0)" + NO_PLACE);
        refused("5 plant: word below 0", RICH, "plant(0, -1, 0, 0)" + WRONG);
        refused("5 plant: word above 30", RICH, "plant(0, 31, 0, 0)" + WRONG);
        refused("5 plant: place below 0", RICH, "plant(0, 0, 0, -1)" + WRONG);
        refused("5 plant: place above 40", RICH, "plant(0, 0, 0, 41)" + WRONG);
        refused("5 plant: no coins", RICH + "17 times plant(1, 5, 0, 0)", "plant(1, 0, 0, 0)" + UNABLE);
        refused("5 plant: 4 coins", "island(0, 0, 1); island(96, 0, 1); ship(); find(0, 1, 0); word(0, 0); sail(0)",
                "plant(0, 0, 0, 0)" + UNABLE);
        refused("5 plant: there are 120", FULL, "plant(0, 0, 0, 0)" + STATE);
    }

    private static void promise05PlantsFirstException() {
        refused("5 plant: no ship first, then the word", RICH, "plant(2, 31, 0, 0)" + NO_PLACE);
        refused("5 plant: no ship first, then the place", RICH, "plant(2, 0, 0, 41)" + NO_PLACE);
        refused("5 plant: no ship first, then that there are 120", FULL, "plant(5, 0, 0, 0)" + NO_PLACE);
        refused("5 plant: no island first, then the word", RICH, "plant(0, 31, 3, 0)" + NO_PLACE);
        refused("5 plant: no island first, then the place", RICH, "plant(0, 0, 3, 41)" + NO_PLACE);
        refused("5 plant: no island first, then the coins", FULL, "plant(1, 0, 12, 0)" + NO_PLACE);
        refused("5 plant: no island first, then that there are 120", FULL, "plant(0, 0, 12, 0)" + NO_PLACE);
        refused("5 plant: the word first, then the coins", FULL, "plant(1, 31, 0, 0)" + WRONG);
        refused("5 plant: the place first, then the coins", FULL, "plant(1, 0, 0, 41)" + WRONG);
        refused("5 plant: the word first, then that there are 120", FULL, "plant(0, 31, 0, 0)" + WRONG);
        refused("5 plant: the place first, then that there are 120", FULL, "plant(0, 0, 0, 41)" + WRONG);
        refused("5 plant: the coins first, then that there are 120", FULL, "plant(1, 0, 0, 0)" + UNABLE);
    }

    private static void promise07Segment() {
        refused("7 segment: index below 0", RICH, "segment(-1)" + MISSING);
        refused("7 segment: index behind the last", RICH, "segment(2)" + MISSING);
        refused("7 segment: index behind the last of 12", FULL, "segment(12)" + MISSING);
        refused("7 segment: none at all", "island(0, 0, 0); 10 times find(0, 0, 0); storm(0)", "segment(0)" + MISSING);
    }

    private static void promise08Size() {
        refused("8 size: a number below 0", RICH, "size(-1)" + MISSING);
        refused("8 size: a number that is not there yet", RICH, "size(2)" + MISSING);
        refused("8 size: a number that is gone by a storm", RICH + "storm(0)", "size(0)" + MISSING);
        refused("8 size: a number that is gone by a merging", FULL + "merge(3, 4)", "size(4)" + MISSING);
    }

    private static void promise09Merge() {
        String full = FULL + "storm(11)";
        refused("9 merge: both are the same", RICH, "merge(0, 0)" + WRONG);
        refused("9 merge: the same first, then that there is none", RICH, "merge(9, 9)" + WRONG);
        refused("9 merge: the same first, then that it is open", RICH, "merge(1, 1)" + WRONG);
        refusedWith("s", "9 merge: there is no such one", RICH, "merge(9, 0)" + MISSING);
        refusedWith("s", "9 merge: there is no such other", RICH, "merge(0, 2)" + MISSING);
        refusedWith("s", "9 merge: one below 0", full, "merge(-1, 3)" + MISSING);
        refusedWith("s", "9 merge: the other one is gone", full, "merge(3, 11)" + MISSING);
        refusedWith("ss", "9 merge: there is neither", RICH, "merge(3, 2)" + MISSING);
        refusedWith("o", "9 merge: one is open", RICH, "merge(1, 0)" + UNABLE);
        refusedWith("o", "9 merge: the other is open", RICH, "merge(0, 1)" + UNABLE);
        refusedWith("so", "9 merge: there is no such one first, then that the other is open", RICH,
                "merge(2, 1)" + MISSING);
        refusedWith("so", "9 merge: there is no such other first, then that the one is open", RICH,
                "merge(1, 2)" + MISSING);
    }

    private static void promise10Storm() {
        refused("10 storm: a number below 0", RICH, "storm(-1)" + MISSING);
        refused("10 storm: a number that is not there yet", RICH, "storm(2)" + MISSING);
        refused("10 storm: a number that is gone", RICH + "storm(0)", "storm(0)" + MISSING);
        refused("10 storm: it is open", RICH, "storm(1)" + UNABLE);
        refused("10 storm: it is open, and empty", "word(0, 0)", "storm(0)" + UNABLE);
        refused("10 storm: it is open with 9", "island(0, 0, 0); 9 times find(0, 0, 0)", "storm(0)" + UNABLE);
    }

    private static void promise12SegmentOf() {
        refused("12 segmentOf: find below 0", RICH, "segmentOf(-1)" + NO_PLACE);
        refused("12 segmentOf: find behind the last", RICH, "segmentOf(12)" + NO_PLACE);
        refused("12 segmentOf: find 120", FULL, "segmentOf(120)" + NO_PLACE);
        refused("12 segmentOf: it is in none", RICH + "storm(0)", "segmentOf(9)" + MISSING);
        refused("12 segmentOf: it is in none, and struck", RICH + "storm(0)", "segmentOf(4)" + MISSING);
    }

    private static void promises13To15Words() {
        refused("13 postings: word below 0", RICH, "postings(-1)" + WRONG);
        refused("13 postings: word above 30", RICH, "postings(31)" + WRONG);
        refused("14 posting: word below 0", RICH, "posting(-1, 0)" + WRONG);
        refused("14 posting: word above 30", RICH, "posting(31, 0)" + WRONG);
        refused("14 posting: index below 0", RICH, "posting(2, -1)" + MISSING);
        refused("14 posting: index behind the last", RICH, "posting(2, 6)" + MISSING);
        refused("14 posting: a word without postings", RICH, "posting(30, 0)" + MISSING);
        refused("14 posting: the word first, then the index", RICH, "posting(31, -1)" + WRONG);
        refused("15 word: word below 0", RICH, "word(-1, 0)" + WRONG);
        refused("15 word: word above 30", RICH, "word(31, 0)" + WRONG);
        refused("15 word: the first word below 0", EMPTY, "word(-1, 0)" + WRONG);
        refused("15 word: the first word above 30", EMPTY, "word(31, 0)" + WRONG);
        refused("15 word: distance below 0", RICH, "word(0, -1)" + WRONG);
        refused("15 word: distance above 9", RICH, "word(0, 10)" + WRONG);
        refused("15 word: the map has 4", FULL, "word(0, 0)" + STATE);
        refused("15 word: the word first, then that the map has 4", FULL, "word(31, 0)" + WRONG);
        refused("15 word: the distance first, then that the map has 4", FULL, "word(0, 10)" + WRONG);
    }

    private static void promises17To20TheTypedMap() {
        String bare = RICH + "wipe()";
        refused("17 hits: the map is empty", bare, "hits()" + UNABLE);
        refused("17 hits: the map is empty, of a new object", EMPTY, "hits()" + UNABLE);
        refused("18 hit: ship below 0", RICH, "hit(-1, 0)" + NO_PLACE);
        refused("18 hit: ship behind the last", RICH, "hit(2, 0)" + NO_PLACE);
        refused("18 hit: the map is empty", bare, "hit(0, 0)" + UNABLE);
        refused("18 hit: rank below 0", RICH + "wipe(); word(2, 0)", "hit(0, -1)" + MISSING);
        refused("18 hit: rank behind the last", RICH + "wipe(); word(2, 0)", "hit(0, 2)" + MISSING);
        refused("18 hit: no hit at all", RICH + "word(9, 9)", "hit(0, 0)" + MISSING);
        refused("18 hit: no ship first, then that the map is empty", bare, "hit(2, 0)" + NO_PLACE);
        refused("18 hit: no ship first, then the rank", RICH, "hit(2, -1)" + NO_PLACE);
        refused("18 hit: the map is empty first, then the rank", bare, "hit(0, -1)" + UNABLE);
        for (String call : List.of("count", "scoreBits")) {
            String name = (call.equals("count") ? "19 " : "20 ") + call;
            refused(name + ": island below 0", RICH, call + "(-1)" + NO_PLACE);
            refused(name + ": island behind the last", RICH, call + "(3)" + NO_PLACE);
            refused(name + ": island 12", FULL, call + "(12)" + NO_PLACE);
            refused(name + ": the map is empty", bare, call + "(0)" + UNABLE);
            refused(name + ": no island first, then that the map is empty", bare, call + "(3)" + NO_PLACE);
        }
    }

    private static void promise21Weight() {
        refused("21 weight: word below 0", RICH, "weight(-1)" + WRONG);
        refused("21 weight: word above 30", RICH, "weight(31)" + WRONG);
    }

    private static void promise22Sail() {
        String far = "island(0, 0, 1); island(99, 99, 1); ship(); find(0, 1, 0); find(1, 0, 0);";
        String near = far + "island(20, 0, 9); find(2, 2, 0); word(2, 0); sail(0); dig(0);";
        refused("22 sail: ship below 0", RICH, "sail(-1)" + NO_PLACE);
        refused("22 sail: ship behind the last", RICH, "sail(2)" + NO_PLACE);
        refused("22 sail: ship 5", FULL, "sail(5)" + NO_PLACE);
        refused("22 sail: the map is empty", RICH + "wipe()", "sail(0)" + UNABLE);
        refusedWith("h", "22 sail: there is no hit", RICH + "wipe(); word(9, 0)", "sail(0)" + MISSING);
        refusedWith("h", "22 sail: there is no hit, as a storm took it", RICH + "wipe(); word(1, 0); word(2, 0)"
                + "; storm(0)", "sail(1)" + MISSING);
        refusedWith("h", "22 sail: there is no island at all", "word(0, 0); island(0, 0, 0); ship()",
                "sail(0)" + MISSING);
        refusedWith("c", "22 sail: there are too few coins", far + "word(0, 0)", "sail(0)" + STATE);
        refusedWith("c", "22 sail: there is one coin too few", "island(0, 0, 1); island(20, 99, 1); ship()"
                + "; find(0, 1, 0); word(0, 0)", "sail(0)" + STATE);
        refusedWith("c", "22 sail: there are too few coins, for a ship that dug", near + "word(0, 9)",
                "sail(0)" + STATE);
        refused("22 sail: no ship first, then that the map is empty", RICH + "wipe()", "sail(2)" + NO_PLACE);
        refused("22 sail: no ship first, then that there is no hit", RICH + "wipe(); word(9, 0)",
                "sail(2)" + NO_PLACE);
        refused("22 sail: the map is empty first, then that there is no hit", "island(0, 0, 0); ship()",
                "sail(0)" + UNABLE);
    }

    private static void promise23Dig() {
        refused("23 dig: ship below 0", RICH, "dig(-1)" + NO_PLACE);
        refused("23 dig: ship behind the last", RICH, "dig(2)" + NO_PLACE);
        refused("23 dig: the ship did not come by a map", RICH + "ship()", "dig(2)" + UNABLE);
        refused("23 dig: it went back", RICH + "strike(3)", "dig(1)" + UNABLE);
        refused("23 dig: the treasure is taken by itself", RICH, "dig(0)" + UNABLE);
        refused("23 dig: the treasure is taken by another one", RICH + "ship(); wipe(); word(0, 0); sail(2)",
                "dig(2)" + UNABLE);
        refused("23 dig: the island is no hit of its map any more", RICH + "storm(0)", "dig(1)" + UNABLE);
        refused("23 dig: the island is a hit of the typed map alone", RICH + "storm(0); find(7, 2, 0); wipe()"
                + "; word(7, 0)", "dig(1)" + UNABLE);
    }

    private static void promise24Strike() {
        refused("24 strike: find below 0", RICH, "strike(-1)" + NO_PLACE);
        refused("24 strike: find behind the last", RICH, "strike(12)" + NO_PLACE);
        refused("24 strike: find 120", FULL, "strike(120)" + NO_PLACE);
        refused("24 strike: no find at all", EMPTY, "strike(0)" + NO_PLACE);
        refused("24 strike: it is struck", RICH, "strike(4)" + UNABLE);
        refused("24 strike: it is struck, and false", RICH + "strike(2)", "strike(2)" + UNABLE);
        refused("24 strike: it is struck, and a ship would go back", RICH + "storm(0)", "strike(4)" + UNABLE);
    }

    private static void promises25To29Numbers() {
        for (String call : List.of("at", "coins", "hasMap")) {
            int promise = 25 + List.of("at", "coins", "hasMap").indexOf(call);
            refused(promise + " " + call + ": ship below 0", RICH, call + "(-1)" + NO_PLACE);
            refused(promise + " " + call + ": ship behind the last", RICH, call + "(2)" + NO_PLACE);
            refused(promise + " " + call + ": ship 5", FULL, call + "(5)" + NO_PLACE);
            refused(promise + " " + call + ": no ship at all", "island(0, 0, 0)", call + "(0)" + NO_PLACE);
        }
        refused("28 isThere: island below 0", RICH, "isThere(-1)" + NO_PLACE);
        refused("28 isThere: island behind the last", RICH, "isThere(3)" + NO_PLACE);
        refused("28 isThere: island 12", FULL, "isThere(12)" + NO_PLACE);
        refused("29 isStruck: find below 0", RICH, "isStruck(-1)" + NO_PLACE);
        refused("29 isStruck: find behind the last", RICH, "isStruck(12)" + NO_PLACE);
        refused("29 isStruck: find 120", FULL, "isStruck(120)" + NO_PLACE);
    }

    private static void promises30To32() {
        refused("31 cause: index below 0", RICH, "cause(-1)" + MISSING);
        refused("31 cause: index behind the last", RICH, "cause(2)" + MISSING);
        refused("31 cause: none at all", EMPTY, "cause(0)" + MISSING);
        refused("32 struckShare: there are no finds", "island(0, 0, 0); word(0, 0)",
                "struckShare() = throws ArithmeticException");
    }
}
