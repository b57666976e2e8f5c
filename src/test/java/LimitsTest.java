import java.math.BigInteger;

/** The sentences of promises 1 to 16 and 25 to 35 that name a boundary, each in a run of calls of its own. */
public final class LimitsTest {
    private static final String ISLES = "island(0, 0, 10); island(3, 4, 20); island(6, 8, 30)\n";
    /** Segments 0 and 1 are closed with words 0 and 1, segment 2 is open with one find of word 2. */
    private static final String SEGMENTS = ISLES + "10 times find(0, 1, 0); 10 times find(1, 2, 0); find(2, 0, 0)\n";
    /** As SEGMENTS, but segment 2 has nine. */
    private static final String NINE = SEGMENTS + "8 times find(2, 0, 0)\n";
    /** Segments 0 and 1 are closed, and none is open. */
    private static final String NONE_OPEN = ISLES + "10 times find(0, 1, 0); 10 times find(1, 2, 0)\n";

    public static void main(String[] args) {
        promise01NewObject();
        promise02Island();
        promise03Find();
        promise03SegmentsFill();
        promise04Ship();
        promise05Plant();
        promise06Segments();
        promise07Segment();
        promise08Size();
        promise09Merge();
        promise10Storm();
        promise11Rebuild();
        promise11Order();
        promise12SegmentOf();
        promise13Postings();
        promise14Posting();
        promise15Word();
        promise16Wipe();
        promises25To27Ships();
        promises28And29();
        promises30And31Causes();
        promises30OtherCalls();
        promise32StruckShare();
        promise33MeanSize();
        promise34Checksum();
        promise35IsTrue();
        Check.end("LimitsTest");
    }

    private static void promise01NewObject() {
        Script.run("1 new object: without islands", "isThere(0) = throws IndexOutOfBoundsException");
        Script.run("1 new object: without finds", "isStruck(0) = throws IndexOutOfBoundsException; postings(0) = 0");
        Script.run("1 new object: without ships", "at(0) = throws IndexOutOfBoundsException");
        Script.run("1 new object: with a segment 0", "segments() = 1; segment(0) = 0; size(0) = 0");
        Script.run("1 new object: the segment 0 is open", "storm(0) = throws UnsupportedOperationException");
        Script.run("1 new object: the map is empty", "wipe() = 0");
        Script.run("1 new object: no causes", "causes() = 0");
        Script one = new Script("1 new object: two objects share nothing").play(SEGMENTS + "ship(); word(0, 0)");
        new Script("1 new object: the other one").play("isThere(0) = throws IndexOutOfBoundsException; wipe() = 0; "
                + "segments() = 1; checksum() = 7; ship() = throws IllegalStateException");
        one.play("segments() = 3; hits() = 1");
        Script.run("Terms: 512 calls, and segments have numbers never again the same", calls512());
    }

    /** Eleven calls, then 250 times two, then the last one. */
    private static String calls512() {
        StringBuilder calls = new StringBuilder("island(0, 0, 0); 10 times find(0, 0, 0)\n");
        for (int segment = 0; segment < 250; segment++) {
            calls.append("storm(").append(segment).append(") = 10; rebuild() = 10\n");
        }
        return calls.append("segment(0) = 250").toString();
    }

    private static void promise02Island() {
        Script.run("2 island: a place x of 0 to 99", """
            island(-1, 5, 5) = throws IllegalArgumentException; island(0, 5, 5) = 0
            island(99, 5, 5) = 1; island(100, 5, 5) = throws IllegalArgumentException
            island(-2147483648, 5, 5) = throws IllegalArgumentException
            island(2147483647, 5, 5) = throws IllegalArgumentException
            """);
        Script.run("2 island: a place y of 0 to 99", """
            island(5, -1, 5) = throws IllegalArgumentException; island(5, 0, 5) = 0
            island(5, 99, 5) = 1; island(5, 100, 5) = throws IllegalArgumentException
            island(5, -2147483648, 5) = throws IllegalArgumentException
            island(5, 2147483647, 5) = throws IllegalArgumentException
            """);
        Script.run("2 island: a treasure of 0 to 999", """
            island(5, 5, -1) = throws IllegalArgumentException; island(5, 5, 0) = 0
            island(5, 5, 999) = 1; island(5, 5, 1000) = throws IllegalArgumentException
            island(5, 5, -2147483648) = throws IllegalArgumentException
            island(5, 5, 2147483647) = throws IllegalArgumentException
            """);
        Script.run("2 island: at most 12, numbered from 0", """
            island(1, 1, 1) = 0; island(1, 1, 1) = 1; island(1, 1, 1) = 2; island(1, 1, 1) = 3
            island(1, 1, 1) = 4; island(1, 1, 1) = 5; island(1, 1, 1) = 6; island(1, 1, 1) = 7
            island(1, 1, 1) = 8; island(1, 1, 1) = 9; island(1, 1, 1) = 10; island(1, 1, 1) = 11
            island(1, 1, 1) = throws IllegalStateException; isThere(11) = true
            isThere(12) = throws IndexOutOfBoundsException
            """);
        Script.run("2 island: a refused one takes no number", """
            island(0, 0, 0) = 0; island(0, 0, 1000) = throws IllegalArgumentException; island(0, 0, 0) = 1
            """);
    }

    private static void promise03Find() {
        Script.run("3 find: words from 0 to 30", ISLES + """
            find(-1, 0, 5) = throws IllegalArgumentException; find(0, 0, 5) = 0
            find(30, 0, 5) = 1; find(31, 0, 5) = throws IllegalArgumentException
            find(-2147483648, 0, 5) = throws IllegalArgumentException
            find(2147483647, 0, 5) = throws IllegalArgumentException; postings(0) = 1; postings(30) = 1
            """);
        Script.run("3 find: an island from 0 to the last", ISLES + """
            find(0, -1, 5) = throws IndexOutOfBoundsException; find(0, 0, 5) = 0
            find(0, 2, 5) = 1; find(0, 3, 5) = throws IndexOutOfBoundsException
            find(0, -2147483648, 5) = throws IndexOutOfBoundsException
            find(0, 2147483647, 5) = throws IndexOutOfBoundsException
            """);
        Script.run("3 find: places from 0 to 40", ISLES + """
            find(0, 0, -1) = throws IllegalArgumentException; find(0, 0, 0) = 0
            find(0, 0, 40) = 1; find(0, 0, 41) = throws IllegalArgumentException
            find(0, 0, -2147483648) = throws IllegalArgumentException
            find(0, 0, 2147483647) = throws IllegalArgumentException
            """);
        Script.run("3 find: at most 120, numbered from 0", ISLES + """
            find(0, 0, 0) = 0; 118 times find(0, 0, 0); find(0, 0, 0) = 119
            find(0, 0, 0) = throws IllegalStateException
            isStruck(119) = false; isStruck(120) = throws IndexOutOfBoundsException; postings(0) = 120
            """);
        Script.run("3 find: struck ones and those in no segment are in the log, so no other one comes", ISLES + """
            120 times find(0, 0, 0); strike(119); storm(11) = 9; storm(0) = 19
            find(0, 0, 0) = throws IllegalStateException; segments() = 10; rebuild() = 19; segments() = 12
            find(0, 0, 0) = throws IllegalStateException
            """);
        Script.run("3 find: 119 finds and a false one are 120", ISLES + """
            ship(); 119 times find(0, 0, 0); plant(0, 0, 0, 0) = 119; find(0, 0, 0) = throws IllegalStateException
            """);
        Script.run("3 find: a refused one takes no number", ISLES + """
            find(0, 0, 0) = 0; find(31, 0, 0) = throws IllegalArgumentException
            find(0, 3, 0) = throws IndexOutOfBoundsException; find(0, 0, 0) = 1; segmentOf(1) = 0; size(0) = 2
            """);
    }

    private static void promise03SegmentsFill() {
        Script.run("3 find: it comes into the open segment, which is open with 9", ISLES + """
            9 times find(0, 0, 0); size(0) = 9; storm(0) = throws UnsupportedOperationException
            """);
        Script.run("3 find: as it has 10, it is closed", ISLES + """
            10 times find(0, 0, 0); size(0) = 10; segments() = 1; storm(0) = 10
            """);
        Script.run("3 find: the next find opens another one", ISLES + """
            10 times find(0, 0, 0); segmentOf(9) = 0; find(0, 0, 0) = 10; segments() = 2; segmentOf(10) = 1
            size(0) = 10; size(1) = 1; storm(1) = throws UnsupportedOperationException
            """);
        Script.run("3 find: and another one behind 20", ISLES + """
            20 times find(0, 0, 0); segments() = 2; storm(1) = 10; find(0, 0, 0) = 20; segmentOf(20) = 2
            """);
        Script.run("3 find: struck ones count among the 10", ISLES + """
            9 times find(0, 0, 0); strike(0); strike(1); find(0, 0, 0); size(0) = 10; storm(0) = 8
            """);
    }

    private static void promise04Ship() {
        Script.run("4 ship: at most 5, numbered from 0", "island(0, 0, 0)" + """
            ; ship() = 0; ship() = 1; ship() = 2; ship() = 3; ship() = 4
            ship() = throws IllegalStateException; at(4) = 0; at(5) = throws IndexOutOfBoundsException
            """);
        Script.run("4 ship: one island is enough", """
            ship() = throws IllegalStateException; island(0, 0, 0); ship() = 0
            """);
        Script.run("4 ship: at the island 0 at first, with 100 coins and no map", ISLES + """
            ship(); at(0) = 0; coins(0) = 100; hasMap(0) = false
            find(0, 2, 0); word(0, 0); sail(0); ship() = 1; at(1) = 0; coins(1) = 100; hasMap(1) = false
            """);
    }

    private static void promise05Plant() {
        Script.run("5 plant: a ship from 0 to the last", ISLES + """
            ship(); ship(); plant(-1, 0, 0, 0) = throws IndexOutOfBoundsException; plant(0, 0, 0, 0) = 0
            plant(1, 0, 0, 0) = 1; plant(2, 0, 0, 0) = throws IndexOutOfBoundsException
            plant(-2147483648, 0, 0, 0) = throws IndexOutOfBoundsException
            plant(2147483647, 0, 0, 0) = throws IndexOutOfBoundsException; coins(0) = 95; coins(1) = 95
            """);
        Script.run("5 plant: words from 0 to 30", ISLES + """
            ship(); plant(0, -1, 0, 0) = throws IllegalArgumentException; plant(0, 0, 0, 0) = 0
            plant(0, 30, 0, 0) = 1; plant(0, 31, 0, 0) = throws IllegalArgumentException; coins(0) = 90
            plant(0, 2147483647, 0, 0) = throws IllegalArgumentException
            plant(0, -2147483648, 0, 0) = throws IllegalArgumentException
            """);
        Script.run("5 plant: an island from 0 to the last", ISLES + """
            ship(); plant(0, 0, -1, 0) = throws IndexOutOfBoundsException; plant(0, 0, 0, 0) = 0
            plant(0, 0, 2, 0) = 1; plant(0, 0, 3, 0) = throws IndexOutOfBoundsException; coins(0) = 90
            """);
        Script.run("5 plant: places from 0 to 40", ISLES + """
            ship(); plant(0, 0, 0, -1) = throws IllegalArgumentException; plant(0, 0, 0, 0) = 0
            plant(0, 0, 0, 40) = 1; plant(0, 0, 0, 41) = throws IllegalArgumentException; coins(0) = 90
            """);
        Script.run("5 plant: fewer than 5 coins are too few, 5 are enough", """
            island(0, 0, 0); island(94, 0, 0); ship(); ship(); find(0, 1, 0); word(0, 0); sail(0); coins(0) = 6
            plant(0, 1, 0, 0) = 1; coins(0) = 1; plant(0, 1, 0, 0) = throws UnsupportedOperationException
            19 times plant(1, 1, 0, 0); coins(1) = 5; plant(1, 1, 0, 0) = 21; coins(1) = 0
            plant(1, 1, 0, 0) = throws UnsupportedOperationException; coins(1) = 0; postings(1) = 21
            """);
        Script.run("5 plant: 4 coins are too few", """
            island(0, 0, 0); island(96, 0, 0); ship(); find(0, 1, 0); word(0, 0); sail(0); coins(0) = 4
            plant(0, 1, 0, 0) = throws UnsupportedOperationException; coins(0) = 4; postings(1) = 0
            """);
        Script.run("5 plant: it is a find like others, the 10th of a segment too", ISLES + """
            ship(); 9 times find(0, 0, 0); plant(0, 4, 1, 3) = 9; segmentOf(9) = 0; storm(0) = 10; postings(4) = 0
            rebuild() = 10; postings(4) = 1; posting(4, 0) = 9; plant(0, 4, 1, 2) = 10; segmentOf(10) = 2
            posting(4, 0) = 10; word(4, 0); count(1) = 2
            """);
        Script.run("5 plant: the 120th is planted, no other one", ISLES + """
            ship(); 118 times find(0, 0, 0); plant(0, 0, 0, 0) = 118; plant(0, 0, 0, 0) = 119
            plant(0, 0, 0, 0) = throws IllegalStateException; coins(0) = 90
            """);
    }

    private static void promise06Segments() {
        Script.run("6 segments: the open one too, without a find", "segments() = 1");
        Script.run("6 segments: 10 finds are one, 11 are two", ISLES + """
            10 times find(0, 0, 0); segments() = 1; find(0, 0, 0); segments() = 2
            """);
        Script.run("6 segments: none", ISLES + "10 times find(0, 0, 0); storm(0); segments() = 0");
        Script.run("6 segments: 120 finds are 12, and one behind all mergings", ISLES + """
            120 times find(0, 0, 0); segments() = 12; merge(0, 1) = 12; segments() = 11; merge(12, 2) = 13
            merge(3, 4) = 14; merge(5, 6) = 15; merge(7, 8) = 16; merge(9, 10) = 17; merge(11, 13) = 18
            merge(14, 15) = 19; merge(16, 17) = 20; merge(18, 19) = 21; segments() = 2; merge(21, 20) = 22
            segments() = 1; segment(0) = 22; size(22) = 120
            """);
    }

    private static void promise07Segment() {
        Script.run("7 segment: an index from 0 to the last", SEGMENTS + """
            segment(-1) = throws NoSuchElementException; segment(0) = 0; segment(1) = 1; segment(2) = 2
            segment(3) = throws NoSuchElementException; segment(-2147483648) = throws NoSuchElementException
            segment(2147483647) = throws NoSuchElementException
            """);
        Script.run("7 segment: by rising numbers, the open one among them", SEGMENTS + """
            merge(1, 0) = 3; segment(0) = 2; segment(1) = 3; segment(2) = throws NoSuchElementException
            """);
        Script.run("7 segment: a gap in between", ISLES + """
            30 times find(0, 0, 0); storm(1); segment(0) = 0; segment(1) = 2
            segment(2) = throws NoSuchElementException
            """);
        Script.run("7 segment: none is there", NONE_OPEN + """
            storm(0); storm(1); segment(0) = throws NoSuchElementException
            """);
    }

    private static void promise08Size() {
        Script.run("8 size: 0 to 10 of the open one", ISLES + """
            size(0) = 0; find(0, 0, 0); size(0) = 1; 8 times find(0, 0, 0); size(0) = 9; find(0, 0, 0); size(0) = 10
            find(0, 0, 0); size(0) = 10; size(1) = 1
            """);
        Script.run("8 size: numbers that are there, and those beside them", SEGMENTS + """
            size(-1) = throws NoSuchElementException; size(0) = 10; size(2) = 1
            size(3) = throws NoSuchElementException; size(-2147483648) = throws NoSuchElementException
            size(2147483647) = throws NoSuchElementException
            """);
        Script.run("8 size: a number that is gone", SEGMENTS + """
            storm(0); size(0) = throws NoSuchElementException; size(1) = 10
            """);
        Script.run("8 size: struck ones are in it", SEGMENTS + "strike(0); strike(20); size(0) = 10; size(2) = 1");
    }

    private static void promise09Merge() {
        Script.run("9 merge: to a new one, with the next number", NONE_OPEN + "merge(0, 1) = 2");
        Script.run("9 merge: the next number is behind the open one's", SEGMENTS + "merge(1, 0) = 3");
        Script.run("9 merge: the next number is behind one that a storm dropped", ISLES
                + "30 times find(0, 0, 0); storm(2); merge(0, 1) = 3; find(0, 0, 0); segmentOf(30) = 4");
        Script.run("9 merge: it has the finds of both, struck ones too", SEGMENTS + """
            strike(0); strike(19); merge(0, 1) = 3; size(3) = 20; segmentOf(0) = 3; segmentOf(9) = 3
            segmentOf(10) = 3; segmentOf(19) = 3; segmentOf(20) = 2; postings(0) = 9; postings(1) = 9; size(2) = 1
            """);
        Script.run("9 merge: both are gone", SEGMENTS + """
            merge(0, 1) = 3; size(0) = throws NoSuchElementException; size(1) = throws NoSuchElementException
            storm(0) = throws NoSuchElementException; merge(1, 3) = throws NoSuchElementException; segments() = 2
            """);
        Script.run("9 merge: a segment with 9 is open, with 10 it is closed", NINE + """
            merge(0, 2) = throws UnsupportedOperationException; find(2, 0, 0); merge(0, 2) = 3; size(3) = 20
            """);
        Script.run("9 merge: the new one is closed, and takes no find", NONE_OPEN + """
            merge(0, 1) = 2; find(0, 0, 0); segmentOf(20) = 3; size(2) = 20; storm(2) = 20
            """);
        Script.run("9 merge: the open one stays open", SEGMENTS + """
            merge(0, 1) = 3; 9 times find(0, 0, 0); segmentOf(29) = 2; size(2) = 10; find(0, 0, 0); segmentOf(30) = 4
            """);
        Script.run("9 merge: both are the same, whichever it is", SEGMENTS + """
            merge(0, 0) = throws IllegalArgumentException; merge(2, 2) = throws IllegalArgumentException
            merge(3, 3) = throws IllegalArgumentException; merge(-1, -1) = throws IllegalArgumentException
            merge(2147483647, 2147483647) = throws IllegalArgumentException; segments() = 3
            """);
        Script.run("9 merge: no such segment, far away", SEGMENTS + """
            merge(0, 2147483647) = throws NoSuchElementException; merge(-2147483648, 0) = throws NoSuchElementException
            """);
    }

    private static void promise10Storm() {
        Script.run("10 storm: its finds are in no segment then", SEGMENTS + """
            storm(0) = 10; segmentOf(0) = throws NoSuchElementException
            segmentOf(9) = throws NoSuchElementException; segmentOf(10) = 1; segments() = 2
            """);
        Script.run("10 storm: all that are in no segment count, those of storms before too", SEGMENTS + """
            storm(0) = 10; storm(1) = 20
            """);
        Script.run("10 storm: struck ones are not counted, struck before or behind a storm", SEGMENTS + """
            strike(0); storm(0) = 9; strike(1); strike(10); storm(1) = 17
            """);
        Script.run("10 storm: none is counted where all are struck", NONE_OPEN + """
            strike(0); strike(1); strike(2); strike(3); strike(4); strike(5); strike(6); strike(7); strike(8); strike(9)
            storm(0) = 0; rebuild() = 0
            """);
        Script.run("10 storm: with 9 it is open, with 10 closed, without an open one behind it", NINE + """
            storm(2) = throws UnsupportedOperationException; size(2) = 9; find(2, 0, 0); segments() = 3; storm(2) = 10
            """);
        Script.run("10 storm: numbers that are there, and those beside them", NONE_OPEN + """
            storm(-1) = throws NoSuchElementException; storm(2) = throws NoSuchElementException
            storm(2147483647) = throws NoSuchElementException; storm(-2147483648) = throws NoSuchElementException
            storm(1) = 10; storm(1) = throws NoSuchElementException; storm(0) = 20
            """);
        Script.run("10 storm: all 120 in one", ISLES + """
            120 times find(0, 0, 0); merge(0, 1); merge(12, 2); storm(13) = 30; storm(11) = 40; segments() = 8
            """);
    }

    private static void promise11Rebuild() {
        Script.run("11 rebuild: nothing is in no segment", SEGMENTS + "rebuild() = 0; segments() = 3; size(2) = 1");
        Script.run("11 rebuild: nothing at all", "rebuild() = 0; segments() = 1");
        Script.run("11 rebuild: nothing, without an open one, opens none", NONE_OPEN + "rebuild() = 0; segments() = 2");
        Script.run("11 rebuild: nothing behind storms, as all are struck", NONE_OPEN + """
            storm(0); storm(1); strike(0); strike(1); strike(2); strike(3); strike(4); strike(5); strike(6); strike(7)
            strike(8); strike(9); strike(10); strike(11); strike(12); strike(13); strike(14); strike(15); strike(16)
            strike(17); strike(18); rebuild() = 1; segments() = 1; size(2) = 1; segmentOf(19) = 2; rebuild() = 0
            """);
        Script.run("11 rebuild: 10 into no open one fill the next one, which is closed", NONE_OPEN + """
            storm(0); rebuild() = 10; segments() = 2; segment(1) = 2; size(2) = 10; storm(2) = 10
            """);
        Script.run("11 rebuild: 9 leave the next one open", NONE_OPEN + """
            storm(0); strike(5); rebuild() = 9; size(2) = 9; storm(2) = throws UnsupportedOperationException
            find(0, 0, 0); segmentOf(20) = 2; storm(2) = 10
            """);
        Script.run("11 rebuild: 11 open a second one", ISLES + """
            20 times find(0, 0, 0); strike(0); strike(1); strike(2); strike(3); strike(4); strike(5); strike(6)
            strike(7); strike(8); storm(0); storm(1); rebuild() = 11; size(2) = 10; size(3) = 1; segments() = 2
            """);
        Script.run("11 rebuild: the open one is filled first", SEGMENTS + """
            storm(0); rebuild() = 10; segmentOf(8) = 2; size(2) = 10; segmentOf(9) = 3; size(3) = 1
            """);
        Script.run("11 rebuild: into one place that is left", NINE + """
            storm(0); rebuild() = 10; segmentOf(0) = 2; segmentOf(1) = 3; size(3) = 9
            """);
        Script.run("11 rebuild: just as many as there are places", ISLES + """
            11 times find(0, 0, 0); strike(0); storm(0); rebuild() = 9; segments() = 1; size(1) = 10; storm(1) = 10
            """);
        Script.run("11 rebuild: all 120", ISLES + """
            120 times find(0, 0, 0); storm(0); storm(1); storm(2); storm(3); storm(4); storm(5); storm(6); storm(7)
            storm(8); storm(9); storm(10); storm(11) = 120; segments() = 0; rebuild() = 120; segments() = 12
            segment(0) = 12; segment(11) = 23; segmentOf(119) = 23; postings(0) = 120
            """);
    }

    private static void promise11Order() {
        Script.run("11 rebuild: by rising numbers, not as the storms came", NONE_OPEN + """
            storm(1); storm(0); rebuild() = 20; segmentOf(0) = 2; segmentOf(9) = 2; segmentOf(10) = 3; segmentOf(19) = 3
            """);
        Script.run("11 rebuild: they keep their numbers, and the next find has the next one", NONE_OPEN + """
            storm(0); rebuild() = 10; posting(0, 0) = 0; posting(0, 9) = 9; find(0, 1, 0) = 20; posting(0, 10) = 20
            """);
        Script.run("11 rebuild: struck ones are not rebuilt", NONE_OPEN + """
            strike(0); storm(0); strike(9); rebuild() = 8; segmentOf(0) = throws NoSuchElementException
            segmentOf(9) = throws NoSuchElementException; segmentOf(1) = 2; segmentOf(8) = 2; postings(0) = 8
            """);
        Script.run("11 rebuild: false words are rebuilt, and stay false", ISLES + """
            ship(); plant(0, 0, 0, 0); 9 times find(0, 0, 0); storm(0); rebuild() = 10; coins(0) = 95
            strike(0) = 0; coins(0) = 85
            """);
    }

    private static void promise12SegmentOf() {
        Script.run("12 segmentOf: a find from 0 to the last", SEGMENTS + """
            segmentOf(-1) = throws IndexOutOfBoundsException; segmentOf(0) = 0; segmentOf(20) = 2
            segmentOf(21) = throws IndexOutOfBoundsException
            segmentOf(-2147483648) = throws IndexOutOfBoundsException
            segmentOf(2147483647) = throws IndexOutOfBoundsException
            """);
        Script.run("12 segmentOf: the 10th and the 11th find", SEGMENTS + "segmentOf(9) = 0; segmentOf(10) = 1");
        Script.run("12 segmentOf: it is in none, until it is rebuilt", SEGMENTS + """
            storm(1); segmentOf(10) = throws NoSuchElementException; rebuild(); segmentOf(10) = 2
            """);
        Script.run("12 segmentOf: a struck one is still in its segment", SEGMENTS + "strike(3); segmentOf(3) = 0");
    }

    private static void promise13Postings() {
        Script.run("13 postings: words from 0 to 30", ISLES + """
            postings(-1) = throws IllegalArgumentException; postings(0) = 0; postings(30) = 0
            postings(31) = throws IllegalArgumentException; postings(-2147483648) = throws IllegalArgumentException
            postings(2147483647) = throws IllegalArgumentException
            """);
        Script.run("13 postings: two finds with the same word, island and place are both there", ISLES + """
            find(5, 1, 7); postings(5) = 1; find(5, 1, 7); postings(5) = 2
            """);
        Script.run("13 postings: of that word alone", ISLES + "find(5, 1, 7); postings(4) = 0; postings(6) = 0");
        Script.run("13 postings: not struck ones", ISLES + "find(5, 1, 7); find(5, 1, 7); strike(0); postings(5) = 1");
        Script.run("13 postings: those in segments", SEGMENTS + """
            storm(0); postings(0) = 0; postings(1) = 10; rebuild(); postings(0) = 10
            """);
        Script.run("13 postings: all 120", ISLES + "120 times find(30, 0, 0); postings(30) = 120");
    }

    private static void promise14Posting() {
        Script.run("14 posting: words from 0 to 30", ISLES + """
            find(0, 0, 0); find(30, 0, 0); posting(-1, 0) = throws IllegalArgumentException; posting(0, 0) = 0
            posting(30, 0) = 1; posting(31, 0) = throws IllegalArgumentException
            """);
        Script.run("14 posting: an index from 0 to the last", ISLES + """
            find(3, 0, 0); find(3, 0, 1); posting(3, -1) = throws NoSuchElementException; posting(3, 0) = 0
            posting(3, 1) = 1; posting(3, 2) = throws NoSuchElementException
            posting(3, -2147483648) = throws NoSuchElementException
            posting(3, 2147483647) = throws NoSuchElementException
            """);
        Script.run("14 posting: none of a word without one", ISLES + """
            find(2, 0, 0); find(4, 0, 0); posting(3, 0) = throws NoSuchElementException
            """);
        Script.run("14 posting: by islands first", ISLES + """
            find(3, 2, 0); find(3, 1, 20); find(3, 0, 40); posting(3, 0) = 2; posting(3, 1) = 1; posting(3, 2) = 0
            """);
        Script.run("14 posting: then by places", ISLES + """
            find(3, 1, 40); find(3, 1, 10); find(3, 1, 9); find(3, 1, 0)
            posting(3, 0) = 3; posting(3, 1) = 2; posting(3, 2) = 1; posting(3, 3) = 0
            """);
        Script.run("14 posting: then by numbers, whatever their segments", NONE_OPEN + """
            posting(0, 0) = 0; posting(0, 9) = 9; find(0, 1, 0); storm(0); rebuild(); segmentOf(20) = 2
            segmentOf(0) = 2; segmentOf(9) = 3; posting(0, 0) = 0; posting(0, 9) = 9; posting(0, 10) = 20
            """);
        Script.run("14 posting: the struck and the stormed ones leave no gap", SEGMENTS + """
            find(0, 0, 5); find(0, 2, 5); strike(21); posting(0, 0) = 0; strike(0); posting(0, 0) = 1
            posting(0, 8) = 9; posting(0, 9) = 22; storm(0); posting(0, 0) = 22
            posting(0, 1) = throws NoSuchElementException
            """);
        Script.run("14 posting: the last of 120", ISLES + """
            120 times find(30, 0, 0); posting(30, 119) = 119; posting(30, 120) = throws NoSuchElementException
            """);
    }

    private static void promise15Word() {
        Script.run("15 word: words from 0 to 30", """
            word(-1, 0) = throws IllegalArgumentException; word(0, 0) = 1
            word(-1, 0) = throws IllegalArgumentException; word(30, 0) = 2
            word(31, 0) = throws IllegalArgumentException; word(-2147483648, 0) = throws IllegalArgumentException
            word(2147483647, 0) = throws IllegalArgumentException
            """);
        Script.run("15 word: a distance from 0 to 9", """
            word(0, 0) = 1; word(0, -1) = throws IllegalArgumentException; word(0, 0) = 2; word(0, 9) = 3
            word(0, 10) = throws IllegalArgumentException; word(0, -2147483648) = throws IllegalArgumentException
            word(0, 2147483647) = throws IllegalArgumentException
            """);
        Script.run("15 word: the distance of the first one is of no meaning", """
            word(0, -1) = 1; wipe() = 1; word(0, 10) = 1; wipe() = 1; word(0, -2147483648) = 1; wipe() = 1
            word(0, 2147483647) = 1; word(0, 10) = throws IllegalArgumentException
            """);
        Script.run("15 word: a map is a row of 1 to 4 words", """
            word(0, 0) = 1; word(0, 0) = 2; word(0, 0) = 3; word(0, 0) = 4; word(0, 0) = throws IllegalStateException
            wipe() = 4; word(0, 0) = 1
            """);
        Script.run("15 word: behind a sailing it is the first one again", ISLES + """
            ship(); find(0, 1, 0); word(0, 0); sail(0); word(0, 10) = 1; word(0, 10) = throws IllegalArgumentException
            """);
        Script.run("15 word: words that no find has, and without an island", "word(17, 0) = 1; hits() = 0");
    }

    private static void promise16Wipe() {
        Script.run("16 wipe: it had none", "wipe() = 0; wipe() = 0");
        Script.run("16 wipe: it had one", "word(0, 0); wipe() = 1; wipe() = 0");
        Script.run("16 wipe: it had four", "4 times word(0, 0); wipe() = 4; wipe() = 0");
        Script.run("16 wipe: the map is empty then",
                "word(0, 0); wipe(); hits() = throws UnsupportedOperationException");
        Script.run("16 wipe: the maps of ships stay", ISLES + """
            ship(); find(0, 1, 0); word(0, 0); sail(0); wipe() = 0; hasMap(0) = true; dig(0) = 20
            """);
    }

    private static void promises25To27Ships() {
        String five = ISLES + "ship(); ship(); ship(); ship(); ship(); find(0, 2, 0); word(0, 0); sail(4)\n";
        Script.run("25 at: a ship from 0 to the last", five + """
            at(-1) = throws IndexOutOfBoundsException; at(0) = 0; at(3) = 0; at(4) = 2
            at(5) = throws IndexOutOfBoundsException; at(-2147483648) = throws IndexOutOfBoundsException
            at(2147483647) = throws IndexOutOfBoundsException
            """);
        Script.run("26 coins: a ship from 0 to the last", five + """
            coins(-1) = throws IndexOutOfBoundsException; coins(0) = 100; coins(3) = 100; coins(4) = 90
            coins(5) = throws IndexOutOfBoundsException; coins(-2147483648) = throws IndexOutOfBoundsException
            coins(2147483647) = throws IndexOutOfBoundsException
            """);
        Script.run("27 hasMap: a ship from 0 to the last", five + """
            hasMap(-1) = throws IndexOutOfBoundsException; hasMap(0) = false; hasMap(3) = false; hasMap(4) = true
            hasMap(5) = throws IndexOutOfBoundsException; hasMap(-2147483648) = throws IndexOutOfBoundsException
            hasMap(2147483647) = throws IndexOutOfBoundsException
            """);
        Script.run("27 hasMap: a map by which it came, to where it is too", ISLES + """
            ship(); find(0, 0, 0); word(0, 0); hasMap(0) = false; sail(0) = 0; hasMap(0) = true; dig(0)
            hasMap(0) = true; strike(0) = 1; hasMap(0) = false
            """);
    }

    private static void promises28And29() {
        Script.run("28 isThere: an island from 0 to the last", "12 times island(0, 0, 0)\n" + """
            isThere(-1) = throws IndexOutOfBoundsException; isThere(0) = true; isThere(11) = true
            isThere(12) = throws IndexOutOfBoundsException; isThere(-2147483648) = throws IndexOutOfBoundsException
            isThere(2147483647) = throws IndexOutOfBoundsException
            """);
        Script.run("28 isThere: a treasure of 0 is there until it is taken", "island(0, 0, 0)" + """
            ; ship(); find(0, 0, 0); word(0, 0); sail(0); isThere(0) = true; dig(0) = 0; isThere(0) = false
            strike(0) = 1; isThere(0) = true
            """);
        Script.run("29 isStruck: a find from 0 to the last", ISLES + """
            isStruck(0) = throws IndexOutOfBoundsException; 120 times find(0, 0, 0); strike(0); strike(119)
            isStruck(-1) = throws IndexOutOfBoundsException; isStruck(0) = true; isStruck(1) = false
            isStruck(118) = false; isStruck(119) = true; isStruck(120) = throws IndexOutOfBoundsException
            isStruck(-2147483648) = throws IndexOutOfBoundsException
            isStruck(2147483647) = throws IndexOutOfBoundsException
            """);
        Script.run("29 isStruck: in no segment too", NONE_OPEN + """
            strike(0); storm(0); strike(1); isStruck(0) = true; isStruck(1) = true; isStruck(2) = false; rebuild()
            isStruck(0) = true; isStruck(1) = true; isStruck(2) = false
            """);
    }

    private static void promises30And31Causes() {
        Script.run("30 causes: 0 without one", "causes() = 0; cause(0) = throws NoSuchElementException");
        Script.run("30 causes: one", SEGMENTS + "merge(0, 9) = throws NoSuchElementException; causes() = 1");
        Script.run("30 causes: two", SEGMENTS + "merge(2, 9) = throws NoSuchElementException; causes() = 2");
        Script.run("30 causes: the last one's alone", SEGMENTS + """
            merge(9, 8) = throws NoSuchElementException; causes() = 2
            merge(0, 2) = throws UnsupportedOperationException; causes() = 1; cause(0) = o
            merge(9, 2) = throws NoSuchElementException; causes() = 2
            """);
        Script.run("31 cause: an index from 0 to the last", SEGMENTS + """
            merge(9, 2) = throws NoSuchElementException; cause(-1) = throws NoSuchElementException; cause(0) = s
            cause(1) = o; cause(2) = throws NoSuchElementException; cause(-2147483648) = throws NoSuchElementException
            cause(2147483647) = throws NoSuchElementException
            """);
        Script.run("31 cause: 's' ahead of 'o', whichever of both it is", SEGMENTS + """
            merge(2, 9) = throws NoSuchElementException; cause(0) = s; cause(1) = o
            """);
        Script.run("31 cause: a letter for each of both, 's' and 's'", SEGMENTS + """
            merge(8, 9) = throws NoSuchElementException; cause(0) = s; cause(1) = s
            cause(2) = throws NoSuchElementException
            """);
        Script.run("31 cause: 'o' alone, whichever of both it is", SEGMENTS + """
            merge(2, 0) = throws UnsupportedOperationException; causes() = 1; cause(0) = o
            merge(8, 9) = throws NoSuchElementException; merge(1, 2) = throws UnsupportedOperationException
            causes() = 1; cause(0) = o; cause(1) = throws NoSuchElementException
            """);
        Script.run("31 cause: 'h' of a sailing without a hit", ISLES + """
            ship(); merge(8, 9) = throws NoSuchElementException; word(0, 0); sail(0) = throws NoSuchElementException
            causes() = 1; cause(0) = h; cause(1) = throws NoSuchElementException
            """);
        Script.run("31 cause: 'c' of a sailing with too few coins", "island(0, 0, 0); island(99, 99, 0)" + """
            ; ship(); find(0, 1, 0); merge(8, 9) = throws NoSuchElementException; word(0, 0)
            sail(0) = throws IllegalStateException; causes() = 1; cause(0) = c
            cause(1) = throws NoSuchElementException
            """);
    }

    /** Each call but a refused merging, rebuilding or sailing, one that goes well and one that is refused. */
    private static void promises30OtherCalls() {
        String before = SEGMENTS + "ship(); word(0, 0); merge(2, 9) = throws NoSuchElementException\n";
        String behind = "\ncauses() = 2; cause(0) = s; cause(1) = o";
        String[] others = {"island(0, 0, 0)", "island(100, 0, 0) = throws IllegalArgumentException",
            "find(0, 0, 0)", "find(31, 0, 0) = throws IllegalArgumentException", "ship()",
            "4 times ship(); ship() = throws IllegalStateException",
            "plant(0, 0, 0, 0)", "plant(1, 0, 0, 0) = throws IndexOutOfBoundsException", "segments()", "segment(0)",
            "segment(9) = throws NoSuchElementException", "size(0)", "size(9) = throws NoSuchElementException",
            "merge(0, 1)", "merge(0, 0) = throws IllegalArgumentException",
            "storm(0)", "storm(9) = throws NoSuchElementException", "storm(2) = throws UnsupportedOperationException",
            "rebuild() = 0", "storm(0); rebuild() = 10", "segmentOf(0)",
            "segmentOf(99) = throws IndexOutOfBoundsException",
            "storm(0); segmentOf(0) = throws NoSuchElementException",
            "postings(0)", "postings(31) = throws IllegalArgumentException", "posting(0, 0)",
            "posting(0, 99) = throws NoSuchElementException", "word(0, 0)",
            "word(31, 0) = throws IllegalArgumentException",
            "3 times word(0, 0); word(0, 0) = throws IllegalStateException", "wipe()", "hits()",
            "wipe(); hits() = throws UnsupportedOperationException", "hit(0, 0)",
            "hit(0, 9) = throws NoSuchElementException", "count(0)", "count(9) = throws IndexOutOfBoundsException",
            "scoreBits(0)", "scoreBits(9) = throws IndexOutOfBoundsException", "weight(0)",
            "weight(31) = throws IllegalArgumentException", "sail(0)", "sail(9) = throws IndexOutOfBoundsException",
            "wipe(); sail(0) = throws UnsupportedOperationException", "sail(0); dig(0) = 20",
            "dig(0) = throws UnsupportedOperationException", "strike(0)", "sail(0); storm(0); strike(20) = 1",
            "strike(99) = throws IndexOutOfBoundsException",
            "strike(0); strike(0) = throws UnsupportedOperationException",
            "at(0)", "at(9) = throws IndexOutOfBoundsException", "coins(0)", "hasMap(0)", "isThere(0)", "isStruck(0)",
            "isThere(9) = throws IndexOutOfBoundsException", "causes() = 2", "cause(9) = throws NoSuchElementException",
            "struckShare()", "meanSize()", "checksum()", "isTrue()"};
        for (String other : others) {
            Script.run("30 causes: other calls leave the row as it is, " + other, before + other + behind);
        }
        Script.run("30 causes: struckShare without finds leaves the row as it is", """
            merge(1, 0) = throws NoSuchElementException; struckShare() = throws ArithmeticException
            causes() = 2; cause(0) = s; cause(1) = o
            """);
    }

    private static void promise32StruckShare() {
        Script.run("32 struckShare: there are none", ISLES + "struckShare() = throws ArithmeticException");
        Script.run("32 struckShare: none of one", ISLES + "find(0, 0, 0); struckShare() = 0.0");
        Script.run("32 struckShare: one of one", ISLES + "find(0, 0, 0); strike(0); struckShare() = 1.0");
        Script.run("32 struckShare: a quotient of floats", ISLES + """
            3 times find(0, 0, 0); strike(0); struckShare() = 0.33333334; strike(2); struckShare() = 0.6666667
            """);
        Script.run("32 struckShare: of 120", ISLES + """
            120 times find(0, 0, 0); strike(119); struckShare() = 0.008333334; storm(11); struckShare() = 0.008333334
            """);
        Script.run("32 struckShare: false ones, and those in no segment", ISLES + """
            ship(); plant(0, 0, 0, 0); 9 times find(0, 0, 0); strike(0); storm(0); strike(1); struckShare() = 0.2
            """);
    }

    private static void promise33MeanSize() {
        Script.run("33 meanSize: an empty one", "meanSize() = 0.0");
        Script.run("33 meanSize: 0.0 without one", NONE_OPEN + "storm(0); storm(1); segments() = 0; meanSize() = 0.0");
        Script.run("33 meanSize: the sum divided by their number", ISLES + """
            find(0, 0, 0); meanSize() = 1.0; 9 times find(0, 0, 0); meanSize() = 10.0; find(0, 0, 0); meanSize() = 5.5
            """);
        Script.run("33 meanSize: a quotient of doubles", NINE + "meanSize() = 9.666666666666666");
        Script.run("33 meanSize: struck ones are in it, those in no segment are not", SEGMENTS + """
            strike(0); meanSize() = 7.0; storm(0); meanSize() = 5.5
            """);
        Script.run("33 meanSize: merged ones", SEGMENTS + "merge(0, 1); meanSize() = 10.5");
    }

    private static void promise34Checksum() {
        Script.run("34 checksum: 7 at first", ISLES + "checksum() = 7");
        Script.run("34 checksum: the smallest find", ISLES + "find(0, 0, 0); checksum() = 208537");
        Script.run("34 checksum: the largest find, on the last island", "12 times island(0, 0, 0)\n"
                + "find(30, 11, 40); checksum() = " + (208537 + 30 * 961 + 11 * 31 + 40));
        Script.run("34 checksum: 100 more if it is struck", ISLES + "find(0, 0, 0); strike(0); checksum() = 208637");
        Script.run("34 checksum: the 100 are within the sum of the finds behind it", ISLES
                + "find(0, 0, 0); find(0, 0, 0); strike(0); checksum() = " + 208637L * 29791);
        Script.run("34 checksum: it does not wrap around with 3 finds", ISLES
                + "3 times find(1, 2, 3); checksum() = " + wrapped(3));
        Script.run("34 checksum: it wraps around with 4, 5 and 120 finds", ISLES
                + "4 times find(1, 2, 3); checksum() = " + wrapped(4) + "\nfind(1, 2, 3); checksum() = " + wrapped(5)
                + "\n115 times find(1, 2, 3); checksum() = " + wrapped(120));
        Script.run("34 checksum: over the log, whatever the segments", NONE_OPEN + "storm(0); rebuild(); merge(1, 2)"
                + "\nchecksum() = " + new Script("34").play(NONE_OPEN).answer("checksum()"));
    }

    /** The sum over finds of word 1 on island 2 at place 3, without a bound, cut to 64 bits at last. */
    private static long wrapped(int finds) {
        BigInteger sum = BigInteger.valueOf(7);
        for (int i = 0; i < finds; i++) {
            for (int number = 1; number <= 3; number++) {
                sum = sum.multiply(BigInteger.valueOf(31)).add(BigInteger.valueOf(number));
            }
        }
        return sum.longValue();
    }

    private static void promise35IsTrue() {
        Script.run("35 isTrue: without anything", "isTrue() = true");
        Script.run("35 isTrue: without a segment", NONE_OPEN + "storm(0); storm(1); word(0, 0); isTrue() = true");
        Script.run("35 isTrue: struck ones, in a segment and in none", SEGMENTS + """
            word(0, 0); strike(0); isTrue() = true; storm(0); strike(1); isTrue() = true; rebuild(); isTrue() = true
            """);
        Script.run("35 isTrue: coins are 0", "island(0, 0, 0); island(60, 80, 0)" + """
            ; ship(); plant(0, 1, 0, 0); ship(); find(0, 1, 0); word(0, 0); sail(1); coins(1) = 0; isTrue() = true
            19 times plant(0, 1, 0, 0); coins(0) = 0; strike(0); coins(0) = 0; isTrue() = true
            """);
        Script.run("35 isTrue: with all 120 finds, 12 islands, 5 ships and a map of 4 words",
                "12 times island(0, 0, 0); 5 times ship()\n" + """
            40 times find(0, 3, 0); 40 times find(1, 3, 9); 40 times find(2, 3, 19); word(0, 0); word(1, 9); word(2, 9)
            word(2, 0); isTrue() = true; storm(3); merge(0, 9); isTrue() = true; rebuild(); isTrue() = true
            """);
        Script.run("35 isTrue: with choices of two words in two segments", ISLES + """
            find(0, 0, 0); 9 times find(0, 0, 5); find(1, 0, 1); find(1, 0, 6); word(0, 0); word(1, 0); count(0) = 10
            isTrue() = true; strike(1); isTrue() = true; storm(0); count(0) = 0; isTrue() = true; rebuild()
            count(0) = 9
            isTrue() = true
            """);
        Script.run("35 isTrue: it changes nothing", SEGMENTS + """
            word(0, 0); isTrue(); hits() = 1; segments() = 3; wipe() = 1; causes() = 0
            """);
    }
}
