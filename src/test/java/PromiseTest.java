import java.util.NoSuchElementException;

/** The promises of the document, one by one: ordinary inputs, the edges that it names, and wrong inputs. */
public final class PromiseTest {
    private static final Class<IndexOutOfBoundsException> OUT = IndexOutOfBoundsException.class;
    private static final Class<IllegalArgumentException> WRONG = IllegalArgumentException.class;
    private static final Class<IllegalStateException> STATE = IllegalStateException.class;
    private static final Class<UnsupportedOperationException> UNABLE = UnsupportedOperationException.class;
    private static final Class<NoSuchElementException> MISSING = NoSuchElementException.class;

    public static void main(String[] args) {
        examples();
        promise01NewObject();
        promise02Island();
        promise03Find();
        promise04Ship();
        promise05Plant();
        promise06Segments();
        promise07Segment();
        promise08Size();
        promise09Merge();
        promise10Storm();
        promise11Rebuild();
        promise12SegmentOf();
        promise13Postings();
        promise14Posting();
        promise15Word();
        promise16Wipe();
        promise17Hits();
        promise18Hit();
        promise19Count();
        promise20ScoreBits();
        promise21Weight();
        promise22Sail();
        promise23Dig();
        promise24Strike();
        promise25At();
        promise26Coins();
        promise27HasMap();
        promise28IsThere();
        promise29IsStruck();
        promise30Causes();
        promise31Cause();
        promise32StruckShare();
        promise33MeanSize();
        promise34Checksum();
        promise35IsTrue();
        Check.end("PromiseTest");
    }

    /** An index with islands at 0 0, 3 4 and 6 8, with treasures of 10, 20 and 30. */
    private static Pirateindex threeIslands() {
        Pirateindex x = new Pirateindex();
        x.island(0, 0, 10);
        x.island(3, 4, 20);
        x.island(6, 8, 30);
        return x;
    }

    private static void tell(Pirateindex x, int finds, int word, int island) {
        for (int place = 0; place < finds; place++) {
            x.find(word, island, place);
        }
    }

    /** Word 0 on island 1 in segment 0, word 1 on island 2 in segment 1, and one of word 2 in the open one, 2. */
    private static Pirateindex threeSegments() {
        Pirateindex x = threeIslands();
        tell(x, 10, 0, 1);
        tell(x, 10, 1, 2);
        x.find(2, 0, 0);
        return x;
    }

    private static void type(Pirateindex x, int... wordsAndDistances) {
        x.wipe();
        for (int i = 0; i + 1 < wordsAndDistances.length; i += 2) {
            x.word(wordsAndDistances[i], wordsAndDistances[i + 1]);
        }
    }

    private static void causesAre(String what, Pirateindex x, String row) {
        StringBuilder got = new StringBuilder();
        for (int i = 0; i < x.causes(); i++) {
            got.append(x.cause(i));
        }
        Check.same(what, row, got.toString());
    }

    private static void examples() {
        Pirateindex a = new Pirateindex();
        Check.due("example 1 island", 0, () -> a.island(0, 0, 5));
        Check.due("example 1 island", 1, () -> a.island(3, 4, 9));
        Check.due("example 1 ship", 0, a::ship);
        Check.due("example 1 find", 0, () -> a.find(7, 1, 0));
        Check.due("example 1 word", 1, () -> a.word(7, 0));
        Check.due("example 1 sail", 1, () -> a.sail(0));
        Check.due("example 1 coins", 95, () -> a.coins(0));
        Check.due("example 1 dig", 9, () -> a.dig(0));
        Check.due("example 1 coins", 104, () -> a.coins(0));
        Pirateindex b = new Pirateindex();
        Check.due("example 2 island", 0, () -> b.island(0, 0, 5));
        Check.due("example 2 find", 0, () -> b.find(1, 0, 3));
        Check.due("example 2 postings", 1, () -> b.postings(1));
        Check.due("example 2 posting", 0, () -> b.posting(1, 0));
        Check.due("example 2 segmentOf", 0, () -> b.segmentOf(0));
        Check.due("example 2 strike", 0, () -> b.strike(0));
        Check.due("example 2 postings", 0, () -> b.postings(1));
        Pirateindex c = new Pirateindex();
        Check.thrown("example 3 struckShare", ArithmeticException.class, c::struckShare);
        Check.due("example 3 segments", 1, c::segments);
        Check.due("example 3 word", 1, () -> c.word(0, 0));
        Check.due("example 3 hits", 0, c::hits);
    }

    private static void promise01NewObject() {
        Pirateindex x = new Pirateindex();
        Check.due("1 segments", 1, x::segments);
        Check.due("1 segment", 0, () -> x.segment(0));
        Check.due("1 size", 0, () -> x.size(0));
        Check.thrown("1 segment 0 is open", UNABLE, () -> x.storm(0));
        Check.thrown("1 no island", OUT, () -> x.isThere(0));
        Check.thrown("1 no find", OUT, () -> x.isStruck(0));
        Check.thrown("1 no ship", OUT, () -> x.at(0));
        Check.due("1 the map is empty", 0, x::wipe);
        Check.due("1 causes", 0, x::causes);
        Check.due("1 isTrue", true, x::isTrue);
    }

    private static void promise02Island() {
        Pirateindex x = new Pirateindex();
        int[][] wrong = {{-1, 0, 0}, {100, 0, 0}, {0, -1, 0}, {0, 100, 0}, {0, 0, -1}, {0, 0, 1000},
            {Integer.MIN_VALUE, 0, 0}, {0, Integer.MAX_VALUE, 0}};
        for (int[] w : wrong) {
            Check.thrown("2 island out of range", WRONG, () -> x.island(w[0], w[1], w[2]));
        }
        Check.due("2 lowest", 0, () -> x.island(0, 0, 0));
        Check.due("2 highest", 1, () -> x.island(99, 99, 999));
        Check.due("2 same place again", 2, () -> x.island(0, 0, 7));
        for (int i = 3; i < 12; i++) {
            int number = i;
            Check.due("2 island", number, () -> x.island(1, 2, 3));
        }
        Check.thrown("2 a 13th", STATE, () -> x.island(1, 2, 3));
        Check.thrown("2 a wrong 13th", WRONG, () -> x.island(1, 2, 1000));
        Check.due("2 the treasure is there", true, () -> x.isThere(11));
        Check.thrown("2 no island 12", OUT, () -> x.isThere(12));
    }

    private static void promise03Find() {
        Pirateindex x = new Pirateindex();
        Check.thrown("3 no island at all", OUT, () -> x.find(0, 0, 0));
        x.island(1, 1, 1);
        Check.thrown("3 no island ahead of a wrong word", OUT, () -> x.find(31, 1, 41));
        Check.thrown("3 island below 0", OUT, () -> x.find(0, -1, 0));
        Check.thrown("3 word below 0", WRONG, () -> x.find(-1, 0, 0));
        Check.thrown("3 word above 30", WRONG, () -> x.find(31, 0, 0));
        Check.thrown("3 place below 0", WRONG, () -> x.find(0, 0, -1));
        Check.thrown("3 place above 40", WRONG, () -> x.find(0, 0, 41));
        Check.due("3 nothing came", 0, () -> x.size(0));
        Check.due("3 first", 0, () -> x.find(30, 0, 40));
        Check.due("3 the same again", 1, () -> x.find(30, 0, 40));
        for (int i = 2; i < 120; i++) {
            int number = i;
            Check.due("3 number", number, () -> x.find(0, 0, 0));
            Check.due("3 segment", number / 10, () -> x.segmentOf(number));
        }
        Check.thrown("3 a 121st", STATE, () -> x.find(0, 0, 0));
        Check.thrown("3 a wrong 121st", WRONG, () -> x.find(0, 0, 41));
        Check.thrown("3 a 121st without island", OUT, () -> x.find(0, 1, 0));
        Check.due("3 segments", 12, x::segments);
        for (int i = 0; i < 12; i++) {
            int segment = i;
            Check.due("3 size", 10, () -> x.size(segment));
        }
    }

    private static void promise04Ship() {
        Pirateindex x = new Pirateindex();
        Check.thrown("4 no island", STATE, x::ship);
        x.island(9, 9, 9);
        x.island(0, 0, 1);
        for (int i = 0; i < 5; i++) {
            int ship = i;
            Check.due("4 ship", ship, x::ship);
            Check.due("4 at", 0, () -> x.at(ship));
            Check.due("4 coins", 100, () -> x.coins(ship));
            Check.due("4 hasMap", false, () -> x.hasMap(ship));
        }
        Check.thrown("4 a sixth", STATE, x::ship);
        Check.thrown("4 no ship 5", OUT, () -> x.at(5));
    }

    private static void promise05Plant() {
        Pirateindex x = threeIslands();
        Check.thrown("5 no ship", OUT, () -> x.plant(0, 31, 0, 41));
        x.ship();
        Check.thrown("5 no ship 1", OUT, () -> x.plant(1, 0, 0, 0));
        Check.thrown("5 no ship -1", OUT, () -> x.plant(-1, 0, 0, 0));
        Check.thrown("5 no island", OUT, () -> x.plant(0, 31, 3, 0));
        Check.thrown("5 no island -1", OUT, () -> x.plant(0, 0, -1, 0));
        Check.thrown("5 word", WRONG, () -> x.plant(0, 31, 0, 0));
        Check.thrown("5 word below 0", WRONG, () -> x.plant(0, -1, 0, 0));
        Check.thrown("5 place", WRONG, () -> x.plant(0, 0, 0, 41));
        Check.thrown("5 place below 0", WRONG, () -> x.plant(0, 0, 0, -1));
        Check.due("5 nothing paid", 100, () -> x.coins(0));
        Check.due("5 a find ahead", 0, () -> x.find(4, 1, 4));
        for (int i = 1; i <= 20; i++) {
            int number = i;
            Check.due("5 plant", number, () -> x.plant(0, 3, 2, 5));
            Check.due("5 coins", 100 - 5 * number, () -> x.coins(0));
        }
        Check.due("5 postings", 20, () -> x.postings(3));
        Check.due("5 segments", 3, x::segments);
        Check.thrown("5 without coins", UNABLE, () -> x.plant(0, 3, 2, 5));
        Check.thrown("5 wrong without coins", WRONG, () -> x.plant(0, 3, 2, 41));
        Check.due("5 nothing planted", 20, () -> x.postings(3));
        x.ship();
        tell(x, 41, 0, 0);
        tell(x, 41, 0, 1);
        tell(x, 17, 0, 2);
        Check.thrown("5 a 121st", STATE, () -> x.plant(1, 3, 2, 5));
        Check.thrown("5 a 121st without coins", UNABLE, () -> x.plant(0, 3, 2, 5));
        Check.due("5 not paid", 100, () -> x.coins(1));
        fourCoinsAreTooFew();
    }

    private static void fourCoinsAreTooFew() {
        Pirateindex x = new Pirateindex();
        x.island(0, 0, 0);
        x.island(96, 0, 0);
        x.ship();
        x.find(0, 1, 0);
        type(x, 0, 0);
        x.sail(0);
        Check.due("5 four coins", 4, () -> x.coins(0));
        Check.thrown("5 four are too few", UNABLE, () -> x.plant(0, 0, 0, 0));
        Pirateindex y = new Pirateindex();
        y.island(0, 0, 0);
        y.island(95, 0, 0);
        y.ship();
        y.find(0, 1, 0);
        type(y, 0, 0);
        y.sail(0);
        Check.due("5 five are enough", 1, () -> y.plant(0, 0, 0, 0));
        Check.due("5 none are left", 0, () -> y.coins(0));
    }

    private static void promise06Segments() {
        Pirateindex x = threeIslands();
        tell(x, 10, 0, 0);
        Check.due("6 none is opened behind ten", 1, x::segments);
        x.find(0, 0, 0);
        Check.due("6 the eleventh opens one", 2, x::segments);
        tell(x, 9, 0, 0);
        Check.due("6 twenty", 2, x::segments);
        x.merge(0, 1);
        Check.due("6 merged", 1, x::segments);
        x.storm(2);
        Check.due("6 none", 0, x::segments);
        x.rebuild();
        Check.due("6 rebuilt", 2, x::segments);
    }

    private static void promise07Segment() {
        Pirateindex x = threeSegments();
        Check.due("7 first", 0, () -> x.segment(0));
        Check.due("7 second", 1, () -> x.segment(1));
        Check.due("7 third", 2, () -> x.segment(2));
        Check.thrown("7 none behind", MISSING, () -> x.segment(3));
        Check.thrown("7 none ahead", MISSING, () -> x.segment(-1));
        x.merge(1, 0);
        Check.due("7 the open one is first", 2, () -> x.segment(0));
        Check.due("7 the merged one behind it", 3, () -> x.segment(1));
        Check.thrown("7 two", MISSING, () -> x.segment(2));
        x.storm(3);
        x.rebuild();
        Check.due("7 the next number", 4, () -> x.segment(1));
        Check.due("7 and the next", 5, () -> x.segment(2));
    }

    private static void promise08Size() {
        Pirateindex x = threeSegments();
        Check.due("8 closed", 10, () -> x.size(0));
        Check.due("8 open", 1, () -> x.size(2));
        x.strike(0);
        Check.due("8 struck ones count", 10, () -> x.size(0));
        x.merge(0, 1);
        Check.due("8 merged", 20, () -> x.size(3));
        Check.thrown("8 gone", MISSING, () -> x.size(0));
        Check.thrown("8 gone", MISSING, () -> x.size(1));
        Check.thrown("8 not yet there", MISSING, () -> x.size(4));
        Check.thrown("8 below 0", MISSING, () -> x.size(-1));
    }

    private static void promise09Merge() {
        Pirateindex x = threeSegments();
        x.strike(3);
        Check.thrown("9 the same", WRONG, () -> x.merge(0, 0));
        Check.thrown("9 the same, which is not there", WRONG, () -> x.merge(9, 9));
        Check.thrown("9 the same, which is open", WRONG, () -> x.merge(2, 2));
        causesAre("9 the same leaves the row", x, "");
        Check.thrown("9 one is not there", MISSING, () -> x.merge(9, 0));
        causesAre("9 one is not there", x, "s");
        Check.thrown("9 the open one ahead", UNABLE, () -> x.merge(2, 0));
        causesAre("9 the open one ahead", x, "o");
        Check.thrown("9 the other is not there", MISSING, () -> x.merge(0, 9));
        causesAre("9 the other is not there", x, "s");
        Check.thrown("9 the open one behind", UNABLE, () -> x.merge(0, 2));
        causesAre("9 the open one behind", x, "o");
        Check.thrown("9 open, and not there", MISSING, () -> x.merge(2, 9));
        causesAre("9 open, and not there", x, "so");
        Check.thrown("9 both not there", MISSING, () -> x.merge(-1, 9));
        causesAre("9 both not there", x, "ss");
        Check.due("9 nothing happened", 3, x::segments);
        Check.due("9 merge", 3, () -> x.merge(1, 0));
        causesAre("9 a merging leaves the row", x, "ss");
        for (int i = 0; i < 20; i++) {
            int find = i;
            Check.due("9 segmentOf", 3, () -> x.segmentOf(find));
        }
        Check.due("9 the open one is not touched", 2, () -> x.segmentOf(20));
        Check.due("9 postings without the struck one", 9, () -> x.postings(0));
        Check.due("9 postings", 10, () -> x.postings(1));
        tell(x, 10, 5, 0);
        Check.due("9 the open one went on, and the next came", 4, () -> x.segmentOf(30));
        Check.due("9 a merged one again", 5, () -> x.merge(2, 3));
        Check.due("9 its size", 30, () -> x.size(5));
    }

    private static void promise10Storm() {
        Pirateindex x = threeSegments();
        Check.thrown("10 none", MISSING, () -> x.storm(3));
        Check.thrown("10 below 0", MISSING, () -> x.storm(-1));
        Check.thrown("10 open", UNABLE, () -> x.storm(2));
        causesAre("10 no causes", x, "");
        x.strike(0);
        Check.due("10 struck ones do not count", 9, () -> x.storm(0));
        Check.due("10 no postings", 0, () -> x.postings(0));
        Check.due("10 those before count too", 19, () -> x.storm(1));
        Check.thrown("10 gone", MISSING, () -> x.storm(1));
        x.strike(10);
        tell(x, 9, 3, 0);
        Check.due("10 a full one is closed", 28, () -> x.storm(2));
        Check.due("10 none is left", 0, x::segments);
        Check.due("10 the log stays", false, () -> x.isStruck(29));
        stormsMoveNoShip();
    }

    private static void stormsMoveNoShip() {
        Pirateindex x = threeSegments();
        x.ship();
        type(x, 0, 0);
        x.sail(0);
        x.storm(0);
        Check.due("10 the ship stays", 1, () -> x.at(0));
        Check.due("10 it keeps its map", true, () -> x.hasMap(0));
        Check.thrown("10 but does not dig", UNABLE, () -> x.dig(0));
        x.rebuild();
        Check.due("10 behind the rebuilding it does", 20, () -> x.dig(0));
    }

    private static void promise11Rebuild() {
        Pirateindex x = threeSegments();
        Check.due("11 nothing is lost", 0, x::rebuild);
        x.strike(1);
        x.storm(0);
        Check.due("11 rebuilt without the struck one", 9, x::rebuild);
        Check.thrown("11 the struck one is in none", MISSING, () -> x.segmentOf(1));
        Check.due("11 into the open one", 2, () -> x.segmentOf(0));
        Check.due("11 it is full", 10, () -> x.size(2));
        Check.due("11 no other one is opened", 2, x::segments);
        Check.due("11 the log stays", 21, () -> x.find(6, 0, 0));
        Check.due("11 a find opens the next", 3, () -> x.segmentOf(21));
        Check.due("11 postings", 9, () -> x.postings(0));
        x.storm(1);
        x.storm(2);
        Check.due("11 rebuilt", 20, x::rebuild);
        for (int i = 0; i < 8; i++) {
            int find = i == 0 ? 0 : i + 1;
            Check.due("11 by rising numbers, the first nine", 3, () -> x.segmentOf(find));
        }
        Check.due("11 the ninth", 3, () -> x.segmentOf(9));
        Check.due("11 the tenth", 4, () -> x.segmentOf(10));
        Check.due("11 the nineteenth", 4, () -> x.segmentOf(19));
        Check.due("11 the twentieth", 5, () -> x.segmentOf(20));
        Check.due("11 size", 1, () -> x.size(5));
        causesAre("11 no causes", x, "");
        Check.due("11 isTrue", true, x::isTrue);
    }

    private static void promise12SegmentOf() {
        Pirateindex x = threeSegments();
        Check.due("12 first", 0, () -> x.segmentOf(9));
        Check.due("12 second", 1, () -> x.segmentOf(10));
        Check.due("12 open", 2, () -> x.segmentOf(20));
        Check.thrown("12 no find", OUT, () -> x.segmentOf(21));
        Check.thrown("12 below 0", OUT, () -> x.segmentOf(-1));
        x.strike(9);
        Check.due("12 struck ones stay", 0, () -> x.segmentOf(9));
        x.storm(0);
        Check.thrown("12 lost", MISSING, () -> x.segmentOf(0));
    }

    private static void promise13Postings() {
        Pirateindex x = threeSegments();
        Check.due("13 postings", 10, () -> x.postings(0));
        Check.due("13 none", 0, () -> x.postings(30));
        Check.thrown("13 below 0", WRONG, () -> x.postings(-1));
        Check.thrown("13 above 30", WRONG, () -> x.postings(31));
        x.find(0, 1, 0);
        Check.due("13 two of the same", 11, () -> x.postings(0));
        x.strike(0);
        Check.due("13 struck", 10, () -> x.postings(0));
        x.storm(0);
        Check.due("13 stormed", 1, () -> x.postings(0));
    }

    private static void promise14Posting() {
        Pirateindex x = threeIslands();
        x.find(0, 2, 3);
        x.find(0, 1, 40);
        x.find(0, 1, 2);
        x.find(1, 0, 0);
        x.find(0, 1, 2);
        x.find(0, 0, 9);
        int[] row = {5, 2, 4, 1, 0};
        for (int i = 0; i < row.length; i++) {
            int at = i;
            Check.due("14 posting " + at, row[at], () -> x.posting(0, at));
        }
        Check.thrown("14 none behind", MISSING, () -> x.posting(0, 5));
        Check.thrown("14 none ahead", MISSING, () -> x.posting(0, -1));
        Check.thrown("14 none at all", MISSING, () -> x.posting(2, 0));
        Check.thrown("14 word above 30", WRONG, () -> x.posting(31, 9));
        Check.thrown("14 word below 0", WRONG, () -> x.posting(-1, 0));
        x.strike(2);
        Check.due("14 behind a strike", 4, () -> x.posting(0, 1));
        Check.thrown("14 one fewer", MISSING, () -> x.posting(0, 4));
        tell(x, 4, 2, 0);
        x.storm(0);
        Check.thrown("14 stormed", MISSING, () -> x.posting(0, 0));
        x.find(0, 2, 0);
        x.rebuild();
        int[] rebuilt = {5, 4, 1, 10, 0};
        for (int i = 0; i < rebuilt.length; i++) {
            int at = i;
            Check.due("14 rebuilt " + at, rebuilt[at], () -> x.posting(0, at));
        }
    }

    private static void promise15Word() {
        Pirateindex x = threeIslands();
        Check.thrown("15 word above 30", WRONG, () -> x.word(31, 0));
        Check.thrown("15 word below 0", WRONG, () -> x.word(-1, 0));
        Check.due("15 the first one's distance is of no meaning", 1, () -> x.word(0, -5));
        Check.thrown("15 distance below 0", WRONG, () -> x.word(0, -1));
        Check.thrown("15 distance above 9", WRONG, () -> x.word(0, 10));
        Check.due("15 second", 2, () -> x.word(30, 9));
        Check.due("15 third", 3, () -> x.word(1, 0));
        Check.due("15 fourth", 4, () -> x.word(1, 0));
        Check.thrown("15 fifth", STATE, () -> x.word(1, 0));
        Check.thrown("15 a wrong fifth", WRONG, () -> x.word(31, 0));
        Check.thrown("15 a fifth with a wrong distance", WRONG, () -> x.word(0, 10));
        Check.due("15 four stay", 4, x::wipe);
        Check.due("15 and again the first", 1, () -> x.word(0, Integer.MAX_VALUE));
    }

    private static void promise16Wipe() {
        Pirateindex x = threeIslands();
        Check.due("16 nothing", 0, x::wipe);
        x.word(1, 0);
        x.word(2, 0);
        Check.due("16 two", 2, x::wipe);
        Check.thrown("16 the map is empty", UNABLE, x::hits);
        Check.due("16 nothing again", 0, x::wipe);
    }

    private static void promise17Hits() {
        Pirateindex x = threeIslands();
        Check.thrown("17 the map is empty", UNABLE, x::hits);
        x.find(0, 0, 5);
        x.find(1, 0, 6);
        x.find(0, 1, 5);
        x.find(1, 1, 15);
        x.find(0, 2, 5);
        x.find(1, 2, 5);
        x.find(1, 2, 4);
        type(x, 0, 0);
        Check.due("17 one word", 3, x::hits);
        type(x, 5, 0);
        Check.due("17 a word without postings", 0, x::hits);
        type(x, 0, 0, 1, 0);
        Check.due("17 right behind", 1, x::hits);
        type(x, 0, 0, 1, 8);
        Check.due("17 not as far", 1, x::hits);
        type(x, 0, 0, 1, 9);
        Check.due("17 at distance 9", 2, x::hits);
        type(x, 1, 0, 0, 0);
        Check.due("17 the other way round", 1, x::hits);
        type(x, 0, 0, 0, 9);
        Check.due("17 a place does not count twice", 0, x::hits);
        type(x, 0, 0, 1, 9);
        x.strike(3);
        Check.due("17 struck", 1, x::hits);
    }

    private static void promise18Hit() {
        Pirateindex x = threeIslands();
        Check.thrown("18 no ship ahead of no map", OUT, () -> x.hit(0, 0));
        x.ship();
        Check.thrown("18 below 0", OUT, () -> x.hit(-1, 0));
        Check.thrown("18 the map is empty", UNABLE, () -> x.hit(0, -1));
        type(x, 0, 0);
        Check.thrown("18 no hit", MISSING, () -> x.hit(0, 0));
        x.find(0, 2, 0);
        x.find(0, 1, 0);
        x.find(0, 0, 0);
        ranksAre(x, 0, 0, 1, 2);
        Check.thrown("18 none behind", MISSING, () -> x.hit(0, 3));
        Check.thrown("18 none ahead", MISSING, () -> x.hit(0, -1));
        x.find(0, 2, 7);
        ranksAre(x, 0, 2, 0, 1);
        type(x, 0, 0);
        x.sail(0);
        x.strike(3);
        type(x, 0, 0);
        Check.due("18 the ship stayed", 2, () -> x.at(0));
        ranksAre(x, 0, 2, 1, 0);
        equalDistancesRankByNumbers();
    }

    private static void ranksAre(Pirateindex x, int ship, int... islands) {
        for (int i = 0; i < islands.length; i++) {
            int rank = i;
            Check.due("18 rank " + rank, islands[rank], () -> x.hit(ship, rank));
        }
    }

    private static void equalDistancesRankByNumbers() {
        Pirateindex x = new Pirateindex();
        x.island(50, 50, 0);
        x.island(55, 50, 0);
        x.island(50, 45, 0);
        x.island(53, 54, 0);
        x.island(54, 54, 0);
        x.island(50, 49, 0);
        x.ship();
        for (int island = 5; island > 0; island--) {
            x.find(8, island, 1);
        }
        type(x, 8, 0);
        ranksAre(x, 0, 5, 1, 2, 3, 4);
    }

    private static void promise19Count() {
        Pirateindex x = threeIslands();
        Check.thrown("19 no island ahead of no map", OUT, () -> x.count(3));
        Check.thrown("19 below 0", OUT, () -> x.count(-1));
        Check.thrown("19 the map is empty", UNABLE, () -> x.count(0));
        for (int word = 0; word < 4; word++) {
            for (int i = 0; i < 30; i++) {
                x.find(word, 1, 37 + word);
            }
        }
        type(x, 0, 0, 1, 0, 2, 0, 3, 0);
        Check.due("19 thirty of each", 810000, () -> x.count(1));
        Check.due("19 no hit", 0, () -> x.count(0));
        type(x, 0, 0, 2, 0);
        Check.due("19 too far", 0, () -> x.count(1));
        type(x, 0, 0, 2, 1);
        Check.due("19 just as far", 900, () -> x.count(1));
        type(x, 0, 0, 3, 9, 2, 9);
        Check.due("19 not backwards", 0, () -> x.count(1));
        x.strike(0);
        type(x, 0, 0);
        Check.due("19 struck", 29, () -> x.count(1));
        choicesBranch();
    }

    private static void choicesBranch() {
        Pirateindex x = threeIslands();
        tell(x, 41, 0, 0);
        type(x, 0, 0, 0, 9);
        Check.due("19 pairs up to ten places away", 31 * 10 + 45, () -> x.count(0));
        type(x, 0, 0, 0, 0, 0, 0, 0, 0);
        Check.due("19 four in a row", 38, () -> x.count(0));
        type(x, 0, 0, 0, 1, 0, 0);
        Check.due("19 with a distance in between", 39 + 38, () -> x.count(0));
        type(x, 0, 9, 0, 0);
        Check.due("19 the first one's distance is of no meaning", 40, () -> x.count(0));
    }

    private static void promise20ScoreBits() {
        Pirateindex x = threeIslands();
        Check.thrown("20 no island ahead of no map", OUT, () -> x.scoreBits(3));
        Check.thrown("20 below 0", OUT, () -> x.scoreBits(-1));
        Check.thrown("20 the map is empty", UNABLE, () -> x.scoreBits(0));
        x.find(0, 0, 0);
        x.find(1, 0, 1);
        x.find(1, 0, 1);
        x.find(1, 0, 1);
        x.find(1, 1, 1);
        x.find(2, 0, 2);
        x.find(2, 1, 2);
        x.find(2, 2, 2);
        type(x, 0, 0, 1, 0);
        Check.due("20 no hit", 0, () -> x.scoreBits(1));
        Check.due("20 weights of 2.5 and 2", Float.floatToIntBits(4.5f * 3f), () -> x.scoreBits(0));
        type(x, 2, 0);
        Check.due("20 a weight of 1.75", Float.floatToIntBits(1.75f), () -> x.scoreBits(2));
        x.island(7, 7, 7);
        x.island(8, 8, 8);
        float first = 1f + 5f / 2f;
        float second = 1f + 5f / 3f;
        float third = 1f + 5f / 4f;
        type(x, 1, 0, 2, 0);
        Check.due("20 thirds", Float.floatToIntBits((second + third) * 3f), () -> x.scoreBits(0));
        type(x, 0, 0, 1, 0, 2, 0);
        Check.due("20 one by one", Float.floatToIntBits((first + second + third) * 3f), () -> x.scoreBits(0));
        aHighScore();
    }

    private static void aHighScore() {
        Pirateindex x = new Pirateindex();
        for (int i = 0; i < 12; i++) {
            x.island(i, 0, 0);
        }
        for (int i = 0; i < 120; i++) {
            x.find(i % 4, 11, i % 4);
        }
        type(x, 0, 0, 1, 0, 2, 0, 3, 0);
        Check.due("20 a high one", Float.floatToIntBits(28f * 810000f), () -> x.scoreBits(11));
    }

    private static void promise21Weight() {
        Pirateindex x = new Pirateindex();
        Check.due("21 no island", 1f, () -> x.weight(0));
        Check.thrown("21 below 0", WRONG, () -> x.weight(-1));
        Check.thrown("21 above 30", WRONG, () -> x.weight(31));
        x.island(0, 0, 0);
        x.island(0, 1, 0);
        x.island(0, 2, 0);
        x.island(0, 3, 0);
        Check.due("21 four islands, no posting", 5f, () -> x.weight(30));
        x.find(0, 1, 3);
        x.find(0, 1, 4);
        Check.due("21 one island has it", 3f, () -> x.weight(0));
        x.find(0, 3, 4);
        Check.due("21 two islands have it", 1f + 4f / 3f, () -> x.weight(0));
        x.strike(2);
        Check.due("21 struck", 3f, () -> x.weight(0));
        tell(x, 7, 1, 0);
        x.storm(0);
        Check.due("21 stormed", 5f, () -> x.weight(0));
    }

    private static void promise22Sail() {
        Pirateindex x = threeIslands();
        Check.thrown("22 no ship ahead of no map", OUT, () -> x.sail(0));
        x.ship();
        Check.thrown("22 below 0", OUT, () -> x.sail(-1));
        Check.thrown("22 the map is empty", UNABLE, () -> x.sail(0));
        causesAre("22 no cause without a map", x, "");
        type(x, 0, 0);
        Check.thrown("22 no hit", MISSING, () -> x.sail(0));
        causesAre("22 no hit", x, "h");
        x.find(0, 2, 0);
        x.find(0, 2, 1);
        x.find(0, 1, 0);
        Check.due("22 to what is ranked first", 2, () -> x.sail(0));
        causesAre("22 a sailing leaves the row", x, "h");
        Check.due("22 the map is empty then", 0, x::wipe);
        Check.due("22 ten coins", 90, () -> x.coins(0));
        Check.due("22 at", 2, () -> x.at(0));
        Check.due("22 the ship keeps the map", true, () -> x.hasMap(0));
        type(x, 0, 0);
        Check.due("22 to where it is", 2, () -> x.sail(0));
        Check.due("22 for nothing", 90, () -> x.coins(0));
        x.strike(0);
        x.strike(1);
        Check.due("22 it came from where it was", 2, () -> x.at(0));
        Check.due("22 without a map", false, () -> x.hasMap(0));
        pricesAreCutToInts();
        tooFewCoins();
    }

    private static void pricesAreCutToInts() {
        int[][] places = {{1, 1, 1}, {2, 2, 2}, {2, 3, 3}, {4, 7, 8}, {0, 99, 99}, {5, 12, 13}, {60, 79, 99},
            {60, 80, 100}};
        for (int[] place : places) {
            Pirateindex x = new Pirateindex();
            x.island(0, 0, 0);
            x.island(place[0], place[1], 0);
            x.ship();
            x.find(0, 1, 0);
            type(x, 0, 0);
            x.sail(0);
            Check.due("22 coins behind " + place[0] + " " + place[1], 100 - place[2], () -> x.coins(0));
        }
    }

    private static void tooFewCoins() {
        Pirateindex x = new Pirateindex();
        x.island(0, 0, 0);
        x.island(99, 99, 0);
        x.island(60, 81, 0);
        x.ship();
        x.find(0, 1, 0);
        x.find(1, 2, 0);
        type(x, 0, 0);
        Check.thrown("22 too few coins", STATE, () -> x.sail(0));
        causesAre("22 too few coins", x, "c");
        Check.due("22 nothing paid", 100, () -> x.coins(0));
        Check.due("22 it stays", 0, () -> x.at(0));
        Check.due("22 it has no map", false, () -> x.hasMap(0));
        Check.due("22 the map is still typed", 1, x::wipe);
        type(x, 1, 0);
        Check.due("22 a hundred are just enough", 2, () -> x.sail(0));
        Check.due("22 none are left", 0, () -> x.coins(0));
    }

    private static void promise23Dig() {
        Pirateindex x = threeIslands();
        Check.thrown("23 no ship", OUT, () -> x.dig(0));
        x.ship();
        x.ship();
        Check.thrown("23 below 0", OUT, () -> x.dig(-1));
        Check.thrown("23 not by a map", UNABLE, () -> x.dig(0));
        x.find(0, 1, 0);
        x.find(1, 1, 1);
        type(x, 0, 0);
        x.sail(0);
        type(x, 1, 0);
        x.sail(1);
        Check.due("23 dig", 20, () -> x.dig(0));
        Check.due("23 coins", 115, () -> x.coins(0));
        Check.due("23 taken", false, () -> x.isThere(1));
        Check.thrown("23 once", UNABLE, () -> x.dig(0));
        Check.thrown("23 once for all", UNABLE, () -> x.dig(1));
        Check.due("23 none for the other", 95, () -> x.coins(1));
        x.strike(0);
        Check.due("23 it is there again, for the other", 20, () -> x.dig(1));
        Check.due("23 coins of the other", 115, () -> x.coins(1));
        Check.thrown("23 the one has no map any more", UNABLE, () -> x.dig(0));
        digByTheMapThatTheShipKeeps();
        digNothing();
    }

    private static void digByTheMapThatTheShipKeeps() {
        Pirateindex x = threeIslands();
        x.ship();
        x.find(0, 1, 0);
        x.find(1, 1, 4);
        tell(x, 8, 2, 0);
        type(x, 0, 0, 1, 3);
        x.sail(0);
        type(x, 9, 0);
        x.storm(0);
        Check.thrown("23 stormed", UNABLE, () -> x.dig(0));
        Check.due("23 the treasure is there", true, () -> x.isThere(1));
        x.find(0, 1, 0);
        Check.thrown("23 half a map", UNABLE, () -> x.dig(0));
        x.find(1, 1, 5);
        Check.thrown("23 too far", UNABLE, () -> x.dig(0));
        x.find(1, 1, 1);
        Check.due("23 other finds serve as well", 20, () -> x.dig(0));
        Check.due("23 the typed map stays", 1, x::wipe);
    }

    private static void digNothing() {
        Pirateindex x = new Pirateindex();
        x.island(0, 0, 0);
        x.ship();
        x.find(0, 0, 0);
        type(x, 0, 0);
        x.sail(0);
        Check.due("23 no coins are a treasure, too", 0, () -> x.dig(0));
        Check.due("23 which is taken", false, () -> x.isThere(0));
        Check.thrown("23 once", UNABLE, () -> x.dig(0));
    }

    private static void promise24Strike() {
        Pirateindex x = threeIslands();
        Check.thrown("24 no find", OUT, () -> x.strike(0));
        x.ship();
        x.ship();
        x.ship();
        x.find(0, 1, 0);
        x.find(0, 1, 3);
        x.find(1, 1, 0);
        Check.thrown("24 below 0", OUT, () -> x.strike(-1));
        Check.thrown("24 behind the last", OUT, () -> x.strike(3));
        for (int ship = 0; ship < 2; ship++) {
            type(x, 0, 0);
            x.sail(ship);
        }
        type(x, 1, 0);
        x.sail(2);
        x.dig(0);
        Check.due("24 another one is left", 0, () -> x.strike(0));
        Check.thrown("24 struck", UNABLE, () -> x.strike(0));
        Check.due("24 the last one", 2, () -> x.strike(1));
        int[] at = {0, 0, 1};
        int[] coins = {95, 95, 95};
        for (int i = 0; i < 3; i++) {
            int ship = i;
            Check.due("24 at", at[ship], () -> x.at(ship));
            Check.due("24 coins", coins[ship], () -> x.coins(ship));
            Check.due("24 hasMap", ship == 2, () -> x.hasMap(ship));
        }
        Check.due("24 the treasure is there again", true, () -> x.isThere(1));
        falseWords();
        givesBackAsFarAsItHasCoins();
        givesBackForThisSailingOnly();
        strikesLookAtStormsToo();
        struckInNoSegment();
    }

    private static void falseWords() {
        Pirateindex x = threeIslands();
        x.ship();
        x.ship();
        x.plant(1, 0, 0, 0);
        x.find(0, 0, 0);
        x.strike(1);
        Check.due("24 no fine for an honest find", 95, () -> x.coins(1));
        x.strike(0);
        Check.due("24 the rival pays", 85, () -> x.coins(1));
        Check.due("24 no other one pays", 100, () -> x.coins(0));
        for (int i = 0; i < 16; i++) {
            x.plant(1, 0, 0, 0);
        }
        Check.due("24 five are left", 5, () -> x.coins(1));
        x.strike(2);
        Check.due("24 as far as it has them", 0, () -> x.coins(1));
        x.strike(3);
        Check.due("24 nothing is paid without coins", 0, () -> x.coins(1));
    }

    private static void givesBackAsFarAsItHasCoins() {
        Pirateindex x = new Pirateindex();
        x.island(0, 0, 0);
        x.island(0, 80, 12);
        x.ship();
        x.plant(0, 3, 1, 0);
        type(x, 3, 0);
        x.sail(0);
        Check.due("24 fifteen are left", 15, () -> x.coins(0));
        x.dig(0);
        x.plant(0, 4, 0, 0);
        x.plant(0, 4, 0, 0);
        Check.due("24 seventeen", 17, () -> x.coins(0));
        Check.due("24 sent back", 1, () -> x.strike(0));
        Check.due("24 the fine first, then what is left", 0, () -> x.coins(0));
        Check.due("24 there again all the same", true, () -> x.isThere(1));
        Check.due("24 at", 0, () -> x.at(0));
    }

    private static void givesBackForThisSailingOnly() {
        Pirateindex x = threeIslands();
        x.ship();
        x.find(0, 1, 0);
        x.find(1, 1, 0);
        x.find(2, 2, 0);
        type(x, 0, 0);
        x.sail(0);
        x.dig(0);
        type(x, 1, 0);
        x.sail(0);
        Check.due("24 not by the map before", 0, () -> x.strike(0));
        Check.due("24 by this map", 1, () -> x.strike(1));
        Check.due("24 dug by the sailing before", 115, () -> x.coins(0));
        Check.due("24 so it is not given back", false, () -> x.isThere(1));
        Check.due("24 it came from the same island", 1, () -> x.at(0));
        type(x, 2, 0);
        x.sail(0);
        x.dig(0);
        Check.due("24 sent back", 1, () -> x.strike(2));
        Check.due("24 to the island in between", 1, () -> x.at(0));
        Check.due("24 given back", 110, () -> x.coins(0));
    }

    private static void strikesLookAtStormsToo() {
        Pirateindex x = threeSegments();
        x.ship();
        x.ship();
        type(x, 0, 0);
        x.sail(0);
        x.dig(0);
        type(x, 1, 0);
        x.sail(1);
        x.storm(0);
        Check.due("24 any strike sends back", 1, () -> x.strike(20));
        Check.due("24 at", 0, () -> x.at(0));
        Check.due("24 coins", 95, () -> x.coins(0));
        Check.due("24 the other one stays", 2, () -> x.at(1));
        x.rebuild();
        Check.due("24 the map is gone", false, () -> x.hasMap(0));
    }

    private static void struckInNoSegment() {
        Pirateindex x = threeSegments();
        x.storm(0);
        Check.due("24 struck in no segment", 0, () -> x.strike(4));
        Check.due("24 it is struck", true, () -> x.isStruck(4));
        Check.due("24 not rebuilt", 9, x::rebuild);
        Check.thrown("24 in none", MISSING, () -> x.segmentOf(4));
    }

    private static void promise25At() {
        Pirateindex x = threeIslands();
        Check.thrown("25 no ship", OUT, () -> x.at(0));
        x.ship();
        Check.due("25 at first", 0, () -> x.at(0));
        x.find(0, 2, 0);
        type(x, 0, 0);
        x.sail(0);
        Check.due("25 behind a sailing", 2, () -> x.at(0));
        Check.thrown("25 below 0", OUT, () -> x.at(-1));
        Check.thrown("25 behind the last", OUT, () -> x.at(1));
    }

    private static void promise26Coins() {
        Pirateindex x = threeIslands();
        Check.thrown("26 no ship", OUT, () -> x.coins(0));
        x.ship();
        Check.due("26 at first", 100, () -> x.coins(0));
        x.find(0, 2, 0);
        type(x, 0, 0);
        x.sail(0);
        Check.due("26 behind a sailing", 90, () -> x.coins(0));
        x.dig(0);
        Check.due("26 behind a digging", 120, () -> x.coins(0));
        Check.thrown("26 below 0", OUT, () -> x.coins(-1));
        Check.thrown("26 behind the last", OUT, () -> x.coins(1));
    }

    private static void promise27HasMap() {
        Pirateindex x = threeIslands();
        Check.thrown("27 no ship", OUT, () -> x.hasMap(0));
        x.ship();
        x.find(0, 2, 0);
        type(x, 0, 0);
        Check.due("27 a typed map is not the ship's", false, () -> x.hasMap(0));
        x.sail(0);
        Check.due("27 behind a sailing", true, () -> x.hasMap(0));
        x.dig(0);
        Check.due("27 behind a digging", true, () -> x.hasMap(0));
        x.strike(0);
        Check.due("27 sent back", false, () -> x.hasMap(0));
        Check.thrown("27 below 0", OUT, () -> x.hasMap(-1));
        Check.thrown("27 behind the last", OUT, () -> x.hasMap(1));
    }

    private static void promise28IsThere() {
        Pirateindex x = threeIslands();
        x.ship();
        x.find(0, 2, 0);
        Check.due("28 at first", true, () -> x.isThere(2));
        type(x, 0, 0);
        x.sail(0);
        Check.due("28 not dug", true, () -> x.isThere(2));
        x.dig(0);
        Check.due("28 dug", false, () -> x.isThere(2));
        Check.due("28 elsewhere", true, () -> x.isThere(0));
        x.strike(0);
        Check.due("28 given back", true, () -> x.isThere(2));
        Check.thrown("28 below 0", OUT, () -> x.isThere(-1));
        Check.thrown("28 behind the last", OUT, () -> x.isThere(3));
    }

    private static void promise29IsStruck() {
        Pirateindex x = threeIslands();
        Check.thrown("29 no find", OUT, () -> x.isStruck(0));
        x.find(0, 0, 0);
        x.find(0, 0, 0);
        Check.due("29 at first", false, () -> x.isStruck(0));
        x.strike(0);
        Check.due("29 struck", true, () -> x.isStruck(0));
        Check.due("29 the other one", false, () -> x.isStruck(1));
        Check.thrown("29 below 0", OUT, () -> x.isStruck(-1));
        Check.thrown("29 behind the last", OUT, () -> x.isStruck(2));
    }

    private static void promise30Causes() {
        Pirateindex x = threeSegments();
        x.ship();
        Check.due("30 at first", 0, x::causes);
        Check.thrown("30 two", MISSING, () -> x.merge(7, 8));
        Check.due("30 two", 2, x::causes);
        x.merge(0, 1);
        x.storm(3);
        x.rebuild();
        x.find(0, 0, 0);
        Check.thrown("30 other calls", OUT, () -> x.find(0, 9, 0));
        Check.thrown("30 other calls", MISSING, () -> x.storm(0));
        Check.thrown("30 the same", WRONG, () -> x.merge(0, 0));
        Check.thrown("30 no map", UNABLE, () -> x.sail(0));
        Check.thrown("30 no ship", OUT, () -> x.sail(1));
        Check.due("30 they leave the row", 2, x::causes);
        type(x, 30, 0);
        Check.thrown("30 one", MISSING, () -> x.sail(0));
        Check.due("30 one", 1, x::causes);
    }

    private static void promise31Cause() {
        Pirateindex x = threeSegments();
        Check.thrown("31 none", MISSING, () -> x.cause(0));
        Check.thrown("31 merge", MISSING, () -> x.merge(2, 8));
        Check.due("31 the first", 's', () -> x.cause(0));
        Check.due("31 the second", 'o', () -> x.cause(1));
        Check.thrown("31 none behind", MISSING, () -> x.cause(2));
        Check.thrown("31 none ahead", MISSING, () -> x.cause(-1));
        Check.thrown("31 merge", UNABLE, () -> x.merge(1, 2));
        Check.due("31 in its place", 'o', () -> x.cause(0));
        Check.thrown("31 none behind", MISSING, () -> x.cause(1));
    }

    private static void promise32StruckShare() {
        Pirateindex x = threeIslands();
        Check.thrown("32 no finds", ArithmeticException.class, x::struckShare);
        tell(x, 3, 0, 0);
        Check.due("32 none", 0f, x::struckShare);
        x.strike(1);
        Check.due("32 a third", 1f / 3f, x::struckShare);
        x.strike(0);
        x.strike(2);
        Check.due("32 all", 1f, x::struckShare);
        tell(x, 7, 0, 0);
        x.storm(0);
        Check.due("32 lost ones count", 3f / 10f, x::struckShare);
    }

    private static void promise33MeanSize() {
        Pirateindex x = threeIslands();
        Check.due("33 at first", 0.0, x::meanSize);
        tell(x, 4, 0, 0);
        Check.due("33 four", 4.0, x::meanSize);
        tell(x, 17, 0, 0);
        Check.due("33 three segments", 7.0, x::meanSize);
        tell(x, 1, 0, 0);
        x.strike(0);
        Check.due("33 struck ones count", 22.0 / 3.0, x::meanSize);
        x.merge(0, 1);
        Check.due("33 merged", 11.0, x::meanSize);
        tell(x, 8, 0, 0);
        x.storm(3);
        x.storm(2);
        Check.due("33 without one", 0.0, x::meanSize);
    }

    private static void promise34Checksum() {
        Pirateindex x = threeIslands();
        Check.due("34 at first", 7L, x::checksum);
        x.find(5, 1, 9);
        long first = ((7L * 31 + 5) * 31 + 1) * 31 + 9;
        Check.due("34 one", first, x::checksum);
        x.find(30, 2, 40);
        Check.due("34 two", ((first * 31 + 30) * 31 + 2) * 31 + 40, x::checksum);
        x.strike(0);
        long struck = first + 100;
        Check.due("34 struck", ((struck * 31 + 30) * 31 + 2) * 31 + 40, x::checksum);
        x.strike(1);
        Check.due("34 both struck", ((struck * 31 + 30) * 31 + 2) * 31 + 140, x::checksum);
        tell(x, 8, 0, 0);
        long before = x.checksum();
        x.storm(0);
        Check.due("34 over the log, not the segments", before, x::checksum);
    }

    private static void promise35IsTrue() {
        Pirateindex x = threeSegments();
        x.ship();
        type(x, 0, 0, 0, 2);
        Check.due("35 with hits", true, x::isTrue);
        x.strike(0);
        Check.due("35 struck", true, x::isTrue);
        x.merge(0, 1);
        Check.due("35 merged", true, x::isTrue);
        x.storm(3);
        Check.due("35 stormed", true, x::isTrue);
        x.rebuild();
        Check.due("35 rebuilt", true, x::isTrue);
        Check.due("35 the map stays", 2, x::wipe);
        causesAre("35 no causes", x, "");
        Pirateindex poor = new Pirateindex();
        poor.island(0, 0, 0);
        poor.island(60, 80, 0);
        poor.ship();
        Check.due("35 a hundred coins", true, poor::isTrue);
        poor.find(0, 1, 0);
        type(poor, 0, 0);
        poor.sail(0);
        Check.due("35 no coins", 0, () -> poor.coins(0));
        Check.due("35 no coins are enough", true, poor::isTrue);
    }
}
