/** The sentences of promises 17 to 24 that name a boundary, each in a run of calls of its own. */
public final class HuntLimitsTest {
    private static final String ISLES = "island(0, 0, 10); island(3, 4, 20); island(6, 8, 30)\n";
    private static final String TWELVE = "12 times island(7, 7, 7)\n";
    /** Ship 0 came to island 1 by find 0, for 5 coins. */
    private static final String CAME = ISLES + "ship(); find(0, 1, 0); word(0, 0); sail(0)\n";

    public static void main(String[] args) {
        promise17Hits();
        promise17Distances();
        promise17Chains();
        promise18Hit();
        promise18Ranks();
        promise19Count();
        promise20ScoreBits();
        promise21Weight();
        promise22Sail();
        promise22Prices();
        promise22Coins();
        promise23Dig();
        promise23TheMapOfTheShip();
        promise24Strike();
        promise24FalseOnes();
        promise24ShipsGoBack();
        promise24GivingBack();
        Check.end("HuntLimitsTest");
    }

    private static void promise17Hits() {
        Script.run("17 hits: none without an island", "word(0, 0); hits() = 0");
        Script.run("17 hits: none without a posting", ISLES + "word(0, 0); hits() = 0");
        Script.run("17 hits: one", ISLES + "find(0, 2, 40); word(0, 0); hits() = 1");
        StringBuilder all = new StringBuilder(TWELVE);
        for (int island = 0; island < 12; island++) {
            all.append("find(0, ").append(island).append(", 0)\n");
        }
        Script.run("17 hits: all 12", all + "word(0, 0); hits() = 12; strike(11); hits() = 11; strike(0); hits() = 10");
        Script.run("17 hits: the map is empty", ISLES + "find(0, 0, 0); hits() = throws UnsupportedOperationException");
        Script.run("17 hits: postings of all words, not of all but one", ISLES + """
            find(0, 0, 0); find(1, 0, 1); find(2, 0, 2); find(3, 1, 3); word(0, 0); hits() = 1; word(1, 0); hits() = 1
            word(2, 0); hits() = 1; word(3, 0); hits() = 0; find(3, 0, 3); hits() = 1
            """);
        Script.run("17 hits: an island with many choices is one hit",
                ISLES + "9 times find(0, 0, 0); word(0, 0); hits() = 1");
        Script.run("17 hits: a storm takes them, a rebuilding brings them", ISLES + """
            10 times find(0, 0, 0); word(0, 0); hits() = 1; storm(0); hits() = 0; rebuild(); hits() = 1
            """);
    }

    /** Each distance, with a posting one place too near, the nearest, the farthest, and one place too far. */
    private static void promise17Distances() {
        for (int distance = 0; distance <= 9; distance++) {
            int[] places = {10, 11, 11 + distance, 12 + distance};
            int[] hits = {0, 1, 1, 0};
            for (int i = 0; i < places.length; i++) {
                Script.run("17 hits: plus 1 to its distance and 1, at place " + places[i] + " behind place 10", ISLES
                        + "find(0, 1, 10); find(1, 1, " + places[i] + "); word(0, 0); word(1, " + distance
                        + "); hits() = " + hits[i] + "; count(1) = " + hits[i]);
            }
        }
        Script.run("17 hits: not ahead of the one ahead",
                ISLES + "find(0, 1, 10); find(1, 1, 9); word(0, 0); word(1, 9); hits() = 0");
        Script.run("17 hits: from place 0 to place 10, not 11", ISLES + """
            find(0, 0, 0); find(1, 0, 11); word(0, 0); word(1, 9); hits() = 0; find(1, 0, 10); hits() = 1
            """);
        Script.run("17 hits: from place 39 to place 40", ISLES + """
            find(0, 0, 39); find(1, 0, 40); word(0, 0); word(1, 0); hits() = 1
            """);
        Script.run("17 hits: from place 30 to place 40, not from 29", ISLES + """
            find(0, 0, 29); find(1, 0, 40); word(0, 0); word(1, 9); hits() = 0; find(0, 0, 30); hits() = 1
            """);
        Script.run("17 hits: nothing is behind place 40", ISLES + """
            find(0, 0, 40); find(1, 0, 40); find(1, 0, 0); word(0, 0); word(1, 9); hits() = 0
            """);
    }

    private static void promise17Chains() {
        Script.run("17 hits: a distance is from the one ahead, not from the first one", ISLES + """
            find(0, 0, 0); find(1, 0, 10); find(2, 0, 20); find(3, 0, 30)
            word(0, 0); word(1, 9); word(2, 9); word(3, 9); hits() = 1; count(0) = 1
            """);
        Script.run("17 hits: the fourth one place too far", ISLES + """
            find(0, 0, 0); find(1, 0, 10); find(2, 0, 20); find(3, 0, 31)
            word(0, 0); word(1, 9); word(2, 9); word(3, 9); hits() = 0
            """);
        Script.run("17 hits: the third one place too far, each has its own distance", ISLES + """
            find(0, 0, 0); find(1, 0, 3); find(2, 0, 5); find(2, 0, 3); word(0, 0); word(1, 2); word(2, 0); hits() = 0
            wipe(); word(0, 0); word(1, 2); word(2, 1); hits() = 1; wipe(); word(0, 0); word(1, 1); word(2, 1)
            hits() = 0
            """);
        Script.run("17 hits: a word twice needs two places, not one", ISLES + """
            find(0, 0, 5); find(0, 0, 5); word(0, 0); word(0, 9); hits() = 0; find(0, 0, 6); hits() = 1; count(0) = 2
            """);
        Script.run("17 hits: postings of another island do not help", ISLES + """
            find(0, 0, 0); find(1, 1, 1); find(1, 2, 1); word(0, 0); word(1, 0); hits() = 0
            """);
        Script.run("17 hits: the distance of the first one is of no meaning", ISLES + """
            find(0, 0, 0); find(1, 0, 1); word(0, 2147483647); word(1, 0); hits() = 1; wipe()
            word(0, -2147483648); word(1, 0); hits() = 1
            """);
    }

    private static void promise18Hit() {
        String one = ISLES + "ship(); ship(); find(0, 1, 0); find(0, 2, 0)\n";
        Script.run("18 hit: a ship from 0 to the last", one + """
            word(0, 0); hit(-1, 0) = throws IndexOutOfBoundsException; hit(0, 0) = 1; hit(1, 0) = 1
            hit(2, 0) = throws IndexOutOfBoundsException; hit(-2147483648, 0) = throws IndexOutOfBoundsException
            hit(2147483647, 0) = throws IndexOutOfBoundsException
            """);
        Script.run("18 hit: a rank from 0 to the last", one + """
            word(0, 0); hit(0, -1) = throws NoSuchElementException; hit(0, 0) = 1; hit(0, 1) = 2
            hit(0, 2) = throws NoSuchElementException; hit(0, -2147483648) = throws NoSuchElementException
            hit(0, 2147483647) = throws NoSuchElementException
            """);
        Script.run("18 hit: none", one + "word(1, 0); hit(0, 0) = throws NoSuchElementException");
        Script.run("18 hit: the map is empty", one + "hit(0, 0) = throws UnsupportedOperationException");
        StringBuilder all = new StringBuilder(TWELVE + "ship(); word(0, 0)\n");
        for (int island = 11; island >= 0; island--) {
            all.append("find(0, ").append(island).append(", 0)\n");
        }
        Script.run("18 hit: all 12, by numbers where all else is the same", all + """
            hit(0, 0) = 0; hit(0, 1) = 1; hit(0, 10) = 10; hit(0, 11) = 11; hit(0, 12) = throws NoSuchElementException
            """);
        Script.run("18 hit: it is of the typed map, which stays", one + "word(0, 0); hit(0, 0); wipe() = 1");
    }

    private static void promise18Ranks() {
        Script.run("18 hit: higher scores first, however far", "island(0, 0, 0); island(99, 99, 0)" + """
            ; ship(); find(0, 0, 0); find(0, 1, 0); find(0, 1, 0); word(0, 0); hit(0, 0) = 1; hit(0, 1) = 0
            """);
        Script.run("18 hit: then nearer ones, by a place", """
            island(50, 50, 0); island(53, 54, 0); island(50, 46, 0); ship(); find(0, 1, 0); find(0, 2, 0); word(0, 0)
            hit(0, 0) = 2; hit(0, 1) = 1
            """);
        Script.run("18 hit: the distance squared, not its root cut to an int", """
            island(50, 50, 0); island(52, 52, 0); island(50, 52, 0); ship(); find(0, 1, 0); find(0, 2, 0); word(0, 0)
            hit(0, 0) = 2; hit(0, 1) = 1
            """);
        Script.run("18 hit: not the sum of both ways", """
            island(50, 50, 0); island(50, 56, 0); island(54, 54, 0); ship(); find(0, 1, 0); find(0, 2, 0); word(0, 0)
            hit(0, 0) = 2; hit(0, 1) = 1
            """);
        Script.run("18 hit: then by numbers, on whatever side they are", """
            island(50, 50, 0); island(53, 54, 0); island(45, 50, 0); island(50, 55, 0); island(46, 47, 0); ship()
            find(0, 4, 0); find(0, 3, 0); find(0, 2, 0); find(0, 1, 0); word(0, 0)
            hit(0, 0) = 1; hit(0, 1) = 2; hit(0, 2) = 3; hit(0, 3) = 4
            """);
        Script.run("18 hit: from the ship, where it is, and that is nearest", ISLES + """
            ship(); ship(); find(0, 0, 0); find(0, 1, 0); find(0, 2, 0); find(9, 2, 0); word(9, 0); sail(1); word(0, 0)
            hit(0, 0) = 0; hit(0, 1) = 1; hit(0, 2) = 2; hit(1, 0) = 2; hit(1, 1) = 1; hit(1, 2) = 0
            """);
    }

    private static void promise19Count() {
        Script.run("19 count: an island from 0 to the last", ISLES + """
            find(0, 0, 0); find(0, 2, 0); word(0, 0); count(-1) = throws IndexOutOfBoundsException; count(0) = 1
            count(2) = 1; count(3) = throws IndexOutOfBoundsException
            count(-2147483648) = throws IndexOutOfBoundsException
            count(2147483647) = throws IndexOutOfBoundsException
            """);
        Script.run("19 count: 0 without a hit", ISLES + "find(0, 1, 0); word(0, 0); count(0) = 0; count(1) = 1");
        Script.run("19 count: the map is empty", ISLES + "count(0) = throws UnsupportedOperationException");
        Script.run("19 count: all choices of postings, two at the same place too", ISLES + """
            find(0, 0, 0); find(0, 0, 0); find(1, 0, 1); find(1, 0, 1); find(1, 0, 1); word(0, 0); count(0) = 2
            word(1, 0); count(0) = 6; strike(0); count(0) = 3; strike(4); count(0) = 2
            """);
        Script.run("19 count: choices within reach alone", ISLES + """
            find(0, 0, 4); find(0, 0, 5); find(1, 0, 5); find(1, 0, 6); find(1, 0, 7); find(1, 0, 8)
            word(0, 0); word(1, 1); count(0) = 4; wipe(); word(0, 0); word(1, 2); count(0) = 6
            """);
        Script.run("19 count: ways that part and meet", ISLES + """
            find(0, 0, 0); find(1, 0, 1); find(1, 0, 2); find(1, 0, 3); find(0, 0, 4); word(0, 0); word(1, 2)
            word(0, 2)
            count(0) = 3; wipe(); word(0, 0); word(1, 9); word(1, 0); word(0, 9); count(0) = 2
            """);
        Script.run("19 count: 30 of each of 4 words", ISLES + """
            30 times find(0, 2, 37); 30 times find(1, 2, 38); 30 times find(2, 2, 39); 30 times find(3, 2, 40)
            word(0, 0); word(1, 0); word(2, 0); word(3, 0); count(2) = 810000; count(1) = 0; strike(119)
            count(2) = 783000
            """);
        Script.run("19 count: four times one word of 119 finds", CROWD + "count(10) = " + choicesOfTheCrowd());
        StringBuilder row = new StringBuilder(ISLES);
        for (int place = 0; place <= 40; place++) {
            row.append("find(0, 0, ").append(place).append(")\n");
        }
        Script.run("19 count: one word at each place", row + """
            word(0, 0); count(0) = 41; word(0, 0); count(0) = 40; word(0, 0); count(0) = 39; word(0, 0); count(0) = 38
            wipe(); word(0, 0); word(0, 9); count(0) = 355
            """);
    }

    /** All 120 finds are of word 0, which the map has four times; all but one of them are on island 10. */
    private static final String CROWD = "11 times island(7, 7, 7); find(0, 3, 0)\n" + crowd()
            + "word(0, 0); word(0, 9); word(0, 9); word(0, 9)\n";

    private static String crowd() {
        StringBuilder finds = new StringBuilder();
        for (int place = 0; place < 20; place++) {
            finds.append(findsOfTheCrowdAt(place)).append(" times find(0, 10, ").append(place).append(")\n");
        }
        return finds.toString();
    }

    private static int findsOfTheCrowdAt(int place) {
        return place == 19 ? 5 : 6;
    }

    private static int choicesOfTheCrowd() {
        int choices = 0;
        for (int first = 0; first < 20; first++) {
            for (int second = first + 1; second < 20 && second <= first + 10; second++) {
                for (int third = second + 1; third < 20 && third <= second + 10; third++) {
                    for (int last = third + 1; last < 20 && last <= third + 10; last++) {
                        choices += findsOfTheCrowdAt(first) * findsOfTheCrowdAt(second) * findsOfTheCrowdAt(third)
                                * findsOfTheCrowdAt(last);
                    }
                }
            }
        }
        return choices;
    }

    private static void promise20ScoreBits() {
        Script.run("20 scoreBits: an island from 0 to the last", ISLES + """
            find(0, 0, 0); find(0, 2, 0); word(0, 0); scoreBits(-1) = throws IndexOutOfBoundsException
            scoreBits(3) = throws IndexOutOfBoundsException; scoreBits(-2147483648) = throws IndexOutOfBoundsException
            scoreBits(2147483647) = throws IndexOutOfBoundsException
            """ + "scoreBits(0) = " + bits(2f) + "; scoreBits(2) = " + bits(2f));
        Script.run("20 scoreBits: 0 if it is no hit", ISLES + "find(0, 0, 0); word(0, 0); scoreBits(1) = 0");
        Script.run("20 scoreBits: the map is empty", ISLES + "scoreBits(0) = throws UnsupportedOperationException");
        Script.run("20 scoreBits: the lowest score", "island(0, 0, 0); find(0, 0, 0); word(0, 0); scoreBits(0) = "
                + bits(1.5f));
        Script.run("20 scoreBits: a high score, that a float holds", TWELVE + """
            30 times find(0, 2, 37); 30 times find(1, 2, 38); 30 times find(2, 2, 39); 30 times find(3, 2, 40)
            word(0, 0); word(1, 0); word(2, 0); word(3, 0)
            """ + "scoreBits(2) = " + bits(22680000f));
        float weight = 1f + 11f / 3f;
        Script.run("20 scoreBits: a score that a float does not hold", CROWD + "scoreBits(10) = "
                + bits((weight + weight + weight + weight) * (float) choicesOfTheCrowd()));
        Script.run("20 scoreBits: a power of two, and the float below the next one", ISLES + """
            find(0, 0, 0); find(0, 1, 0); word(0, 0); island(1, 1, 1)
            """ + "scoreBits(0) = " + bits(1f + 4f / 3f) + "; find(0, 2, 0); scoreBits(0) = " + bits(2f));
        Script.run("20 scoreBits: a word twice weighs twice",
                ISLES + "find(0, 0, 0); find(0, 0, 1); word(0, 0); word(0, 0)"
                + "; scoreBits(0) = " + bits(5f));
        Script.run("20 scoreBits: weights are floats, not doubles", FOUR + """
            find(0, 0, 0); find(0, 1, 0); find(1, 0, 1); find(1, 1, 1); word(0, 0); word(1, 0)
            scoreBits(0) = 1083528534
            """);
        Script.run("20 scoreBits: the sum one by one, in the order of the map", FOUR + """
            find(0, 0, 0); find(1, 0, 1); find(2, 0, 2); find(2, 1, 2); find(3, 0, 3); find(3, 1, 3)
            word(0, 0); word(1, 0); word(2, 0); word(3, 0); scoreBits(0) = 1093315244
            """);
        Script.run("20 scoreBits: the sum times the number of hits, not the sum of products", FOUR + """
            find(0, 0, 0); find(1, 0, 1); 3 times find(2, 0, 2); find(2, 1, 2); word(0, 0); word(1, 0); word(2, 0)
            count(0) = 3; scoreBits(0) = 1103626241
            """);
    }

    private static final String FOUR = "4 times island(0, 0, 0)\n";

    private static int bits(float number) {
        return Float.floatToIntBits(number);
    }

    private static void promise21Weight() {
        Script.run("21 weight: words from 0 to 30", ISLES + """
            weight(-1) = throws IllegalArgumentException; weight(0) = 4.0; weight(30) = 4.0
            weight(31) = throws IllegalArgumentException; weight(-2147483648) = throws IllegalArgumentException
            weight(2147483647) = throws IllegalArgumentException
            """);
        Script.run("21 weight: without an island", "weight(0) = 1.0");
        Script.run("21 weight: one island, without and with a posting", """
            island(0, 0, 0); weight(5) = 2.0; find(5, 0, 0); weight(5) = 1.5
            """);
        Script.run("21 weight: an island with more postings counts once", ISLES + """
            find(5, 0, 0); find(5, 0, 0); find(5, 0, 40); weight(5) = 2.5; find(5, 2, 0); weight(5) = 2.0
            """);
        StringBuilder all = new StringBuilder(TWELVE);
        for (int island = 0; island < 12; island++) {
            all.append("find(0, ").append(island).append(", 0)\n");
        }
        Script.run("21 weight: 12 islands, with a posting none, all, or all but one", all
                + "weight(1) = 13.0; weight(0) = " + (1f + 12f / 13f) + "; strike(11); weight(0) = 2.0");
        Script.run("21 weight: a quotient of floats",
                FOUR + "find(0, 0, 0); find(0, 1, 0); weight(0) = " + (1f + 4f / 3f));
        Script.run("21 weight: those in no segment are no postings", ISLES + """
            10 times find(5, 0, 0); weight(5) = 2.5; storm(0); weight(5) = 4.0; rebuild(); weight(5) = 2.5
            """);
    }

    private static void promise22Sail() {
        Script.run("22 sail: a ship from 0 to the last", ISLES + """
            ship(); ship(); find(0, 1, 0); word(0, 0); sail(-1) = throws IndexOutOfBoundsException
            sail(2) = throws IndexOutOfBoundsException; sail(-2147483648) = throws IndexOutOfBoundsException
            sail(2147483647) = throws IndexOutOfBoundsException; sail(0) = 1; word(0, 0); sail(1) = 1
            """);
        Script.run("22 sail: the map is empty then", CAME + """
            wipe() = 0; hits() = throws UnsupportedOperationException; sail(0) = throws UnsupportedOperationException
            at(0) = 1; coins(0) = 95
            """);
        Script.run("22 sail: perhaps where it is, for 0 coins", CAME + """
            word(0, 0); sail(0) = 1; coins(0) = 95; hasMap(0) = true; wipe() = 0
            """);
        Script.run("22 sail: where it is at first",
                "island(9, 9, 9); ship(); find(0, 0, 0); word(0, 0); sail(0) = 0; coins(0) = 100");
        Script.run("22 sail: to what is ranked first, not to the nearest", ISLES + """
            ship(); find(0, 0, 0); find(0, 1, 0); find(0, 2, 0); find(0, 2, 0); word(0, 0); sail(0) = 2; coins(0) = 90
            """);
        Script.run("22 sail: from where it is, not from island 0", CAME + """
            find(1, 2, 0); word(1, 0); sail(0) = 2; coins(0) = 90; find(2, 0, 0); word(2, 0); sail(0) = 0; coins(0) = 80
            """);
        Script.run("22 sail: another ship stays, with its coins", ISLES + """
            ship(); ship(); find(0, 1, 0); word(0, 0); sail(1); at(0) = 0; coins(0) = 100; hasMap(0) = false; at(1) = 1
            """);
        Script.run("22 sail: the ship keeps the map, of 4 words too", ISLES + """
            ship(); find(0, 1, 0); find(1, 1, 10); find(2, 1, 11); find(3, 1, 13); find(3, 1, 14)
            word(0, 0); word(1, 9); word(2, 0); word(3, 1); sail(0) = 1; strike(4) = 0; hasMap(0) = true; strike(3) = 1
            """);
        Script.run("22 sail: in place of the map of the sailing before", CAME + """
            find(1, 1, 0); word(1, 0); sail(0) = 1; strike(0) = 0; hasMap(0) = true; strike(1) = 1; hasMap(0) = false
            """);
        Script.run("22 sail: where it came from, in place of that of the sailing before", CAME + """
            find(1, 2, 0); word(1, 0); sail(0) = 2; strike(1) = 1; at(0) = 1
            """);
        Script.run("22 sail: a shorter map in place of a longer one", ISLES + """
            ship(); find(0, 1, 0); find(1, 1, 1); word(0, 0); word(1, 0); sail(0); word(0, 0); sail(0) = 1
            strike(1) = 0; strike(0) = 1; at(0) = 1
            """);
    }

    private static void promise22Prices() {
        int[][] prices = {{0, 0, 0}, {1, 0, 1}, {1, 1, 1}, {0, 2, 2}, {1, 2, 2}, {2, 2, 2}, {0, 3, 3}, {1, 3, 3},
            {2, 3, 3}, {4, 0, 4}, {1, 4, 4}, {4, 3, 5}, {1, 5, 5}, {4, 7, 8}, {4, 8, 8}, {9, 0, 9}, {1, 9, 9},
            {7, 7, 9}, {6, 8, 10}, {70, 70, 98}, {0, 99, 99}, {1, 99, 99}, {14, 99, 99}, {60, 80, 100}, {15, 99, 100}};
        for (int[] price : prices) {
            String isle = "island(" + price[0] + ", " + price[1] + ", 0)";
            Script.run("22 sail: the square root, cast to int, from 0 0 to " + isle, "island(0, 0, 0); " + isle
                    + "; ship(); find(0, 1, 0); word(0, 0); sail(0) = 1; coins(0) = " + (100 - price[2]));
            Script.run("22 sail: and from there to 0 0", isle + "; island(0, 0, 0); ship(); find(0, 1, 0); word(0, 0)"
                    + "; sail(0) = 1; coins(0) = " + (100 - price[2]));
        }
        Script.run("22 sail: the longest way, for 140", """
            island(0, 0, 41); island(99, 99, 0); ship(); find(0, 0, 0); find(1, 1, 0); word(0, 0); sail(0); dig(0)
            coins(0) = 141; word(1, 0); sail(0) = 1; coins(0) = 1
            """);
    }

    private static void promise22Coins() {
        Script.run("22 sail: 100 coins are enough for 100", """
            island(0, 0, 0); island(80, 60, 0); ship(); find(0, 1, 0); word(0, 0); sail(0) = 1; coins(0) = 0
            word(0, 0); sail(0) = 1; coins(0) = 0
            """);
        Script.run("22 sail: 100 coins are too few for 101", """
            island(0, 0, 0); island(20, 99, 0); ship(); find(0, 1, 0); word(0, 0)
            sail(0) = throws IllegalStateException
            coins(0) = 100; at(0) = 0; hasMap(0) = false; wipe() = 1; cause(0) = c
            """);
        Script.run("22 sail: no coins are too few for 1", """
            island(0, 0, 0); island(80, 60, 0); island(80, 61, 0); ship(); find(0, 1, 0); find(1, 2, 0); word(0, 0)
            sail(0)
            word(1, 0); sail(0) = throws IllegalStateException; at(0) = 1; hasMap(0) = true; wipe() = 1
            """);
        Script.run("22 sail: too few for what is ranked first, though enough for the next one", """
            island(0, 0, 0); island(99, 99, 0); island(1, 1, 0); ship(); find(0, 1, 0); find(0, 1, 0); find(0, 2, 0)
            word(0, 0); sail(0) = throws IllegalStateException; at(0) = 0; cause(0) = c
            """);
        Script.run("22 sail: no hit, and the map stays", ISLES + """
            ship(); word(0, 0); word(1, 0); sail(0) = throws NoSuchElementException; wipe() = 2; cause(0) = h
            """);
    }

    private static void promise23Dig() {
        Script.run("23 dig: a ship from 0 to the last", ISLES + """
            ship(); ship(); find(0, 1, 0); find(1, 2, 0); word(0, 0); sail(0); word(1, 0); sail(1)
            dig(-1) = throws IndexOutOfBoundsException; dig(2) = throws IndexOutOfBoundsException
            dig(-2147483648) = throws IndexOutOfBoundsException; dig(2147483647) = throws IndexOutOfBoundsException
            dig(0) = 20; dig(1) = 30
            """);
        Script.run("23 dig: the smallest treasure", "island(0, 0, 0); ship(); find(0, 0, 0); word(0, 0); sail(0)" + """
            ; dig(0) = 0; coins(0) = 100; isThere(0) = false; dig(0) = throws UnsupportedOperationException
            """);
        Script.run("23 dig: the largest treasure", "island(0, 0, 999); ship(); find(0, 0, 0); word(0, 0); sail(0)" + """
            ; dig(0) = 999; coins(0) = 1099; isThere(0) = false
            """);
        Script.run("23 dig: once", CAME + """
            dig(0) = 20; coins(0) = 115; dig(0) = throws UnsupportedOperationException; coins(0) = 115
            """);
        Script.run("23 dig: once, by whatever sailing and ship", CAME + """
            dig(0) = 20; word(0, 0); sail(0); dig(0) = throws UnsupportedOperationException
            ship(); word(0, 0); sail(1); dig(1) = throws UnsupportedOperationException; coins(1) = 95
            """);
        Script.run("23 dig: on the island where the ship is", CAME + """
            dig(0) = 20; isThere(0) = true; isThere(1) = false; isThere(2) = true
            """);
        Script.run("23 dig: a ship that did not come by a map, though the treasure is there", ISLES + """
            ship(); find(0, 0, 0); word(0, 0); dig(0) = throws UnsupportedOperationException; isThere(0) = true
            sail(0) = 0; dig(0) = 10
            """);
        Script.run("23 dig: a ship that went back", CAME + """
            strike(0) = 1; dig(0) = throws UnsupportedOperationException; coins(0) = 95; isThere(0) = true
            """);
    }

    private static void promise23TheMapOfTheShip() {
        Script.run("Terms: no treasure is paid on a hit that the judged words do not give", CAME + """
            find(0, 1, 5); strike(0) = 0; strike(1) = 1; dig(0) = throws UnsupportedOperationException; coins(0) = 95
            isThere(1) = true
            """);
        Script.run("23 dig: the island is no hit of it any more, by a storm, until it is rebuilt", CAME + """
            9 times find(9, 0, 0); storm(0); dig(0) = throws UnsupportedOperationException; isThere(1) = true
            hasMap(0) = true; coins(0) = 95; rebuild(); dig(0) = 20
            """);
        Script.run("23 dig: still a hit by other finds",
                CAME + "9 times find(9, 0, 0); storm(0); find(0, 1, 40); dig(0) = 20");
        Script.run("23 dig: not by finds on another island", CAME + """
            9 times find(9, 0, 0); storm(0); find(0, 0, 0); find(0, 2, 0); dig(0) = throws UnsupportedOperationException
            """);
        Script.run("23 dig: by its map, whatever is typed", CAME + "word(30, 0); hits() = 0; dig(0) = 20; wipe() = 1");
        Script.run("23 dig: by its map of two words at the last distance", ISLES + """
            ship(); find(0, 1, 0); find(1, 1, 10); 8 times find(9, 0, 0); word(0, 0); word(1, 9); sail(0); storm(0)
            find(0, 1, 1); find(1, 1, 12); dig(0) = throws UnsupportedOperationException; find(0, 1, 2); dig(0) = 20
            """);
    }

    private static void promise24Strike() {
        Script.run("24 strike: a find from 0 to the last", ISLES + """
            strike(0) = throws IndexOutOfBoundsException; find(0, 0, 0); find(0, 0, 0)
            strike(-1) = throws IndexOutOfBoundsException; strike(2) = throws IndexOutOfBoundsException
            strike(-2147483648) = throws IndexOutOfBoundsException
            strike(2147483647) = throws IndexOutOfBoundsException; strike(0) = 0; strike(1) = 0
            """);
        Script.run("24 strike: it is struck", ISLES + """
            find(0, 0, 0); strike(0) = 0; strike(0) = throws UnsupportedOperationException; isStruck(0) = true
            """);
        Script.run("24 strike: in no postings any more, the other ones stay", ISLES + """
            find(0, 0, 0); find(0, 0, 0); strike(1); postings(0) = 1; posting(0, 0) = 0; size(0) = 2
            """);
        Script.run("24 strike: in no segment, and not rebuilt", ISLES + """
            10 times find(0, 0, 0); storm(0) = 10; strike(9) = 0; rebuild() = 9
            segmentOf(9) = throws NoSuchElementException; strike(9) = throws UnsupportedOperationException
            """);
        Script.run("24 strike: the last of 120", ISLES + "120 times find(0, 0, 0); strike(119) = 0; postings(0) = 119");
    }

    private static void promise24FalseOnes() {
        String[][] fines = {{"1", "85"}, {"17", "5"}, {"18", "0"}, {"19", "0"}, {"20", "0"}};
        for (String[] fine : fines) {
            Script.run("24 strike: its ship pays 10 coins more, as far as it has them, behind " + fine[0], ISLES
                    + "ship(); ship(); " + fine[0] + " times plant(0, 0, 0, 0); strike(0) = 0; coins(0) = " + fine[1]
                    + "; coins(1) = 100");
        }
        String[][] left = {{"89", "11", "1"}, {"90", "10", "0"}, {"91", "9", "0"}};
        for (String[] coins : left) {
            Script.run("24 strike: its ship pays 10 coins more, with " + coins[1], "island(0, 0, 0); island(" + coins[0]
                    + ", 0, 5); ship(); find(1, 1, 0); plant(0, 0, 0, 0); word(1, 0); 5 times find(2, 0, 0)\n"
                    + "hit(0, 0) = 1; sail(0)\ncoins(0) = " + (Integer.parseInt(coins[1]) - 5)
                    + "; dig(0) = 5; coins(0) = " + coins[1] + "; strike(1) = 0; coins(0) = " + coins[2]);
        }
        Script.run("24 strike: if it is no false one, no ship pays", ISLES + """
            ship(); plant(0, 0, 0, 0); find(0, 0, 0); strike(1); coins(0) = 95
            """);
        Script.run("24 strike: the ship that planted it pays, no other one", ISLES + """
            5 times ship(); plant(4, 0, 0, 0); plant(0, 0, 0, 0); strike(0); coins(4) = 85; coins(0) = 95
            coins(1) = 100
            """);
        Script.run("24 strike: in no segment it pays, too", ISLES + """
            ship(); plant(0, 0, 0, 0); 9 times find(0, 0, 0); storm(0); strike(0); coins(0) = 85
            """);
        Script.run("24 strike: a refused strike takes no coins", ISLES + """
            ship(); plant(0, 0, 0, 0); strike(0); strike(0) = throws UnsupportedOperationException; coins(0) = 85
            """);
    }

    private static void promise24ShipsGoBack() {
        Script.run("24 strike: no ship has a map", ISLES + "5 times ship(); find(0, 0, 0); strike(0) = 0; at(4) = 0");
        Script.run("24 strike: a ship whose island is a hit of its map stays", CAME + """
            find(0, 1, 0); strike(0) = 0; at(0) = 1; hasMap(0) = true; strike(1) = 1; at(0) = 0; hasMap(0) = false
            """);
        Script.run("24 strike: all five go back", ISLES + """
            5 times ship(); find(0, 1, 0); word(0, 0); sail(0); word(0, 0); sail(1); word(0, 0); sail(2); word(0, 0)
            sail(3); word(0, 0); sail(4); strike(0) = 5; at(0) = 0; at(1) = 0; at(2) = 0; at(3) = 0; at(4) = 0
            hasMap(0) = false; hasMap(4) = false; coins(4) = 95
            """);
        Script.run("24 strike: by rising numbers, some of them", ISLES + """
            5 times ship(); find(0, 1, 0); find(1, 2, 0); word(0, 0); sail(0); word(1, 0); sail(1); word(0, 0); sail(3)
            strike(0) = 2; at(0) = 0; at(1) = 2; at(2) = 0; at(3) = 0; hasMap(1) = true; strike(1) = 1; at(1) = 0
            """);
        Script.run("24 strike: the way back costs nothing", CAME + "coins(0) = 95; strike(0) = 1; coins(0) = 95");
        Script.run("24 strike: to where it came from, which is where it is", ISLES + """
            ship(); find(0, 0, 0); word(0, 0); sail(0) = 0; strike(0) = 1; at(0) = 0; hasMap(0) = false
            """);
        Script.run("24 strike: it has no map then, so it goes back once", CAME + """
            find(1, 2, 0); word(1, 0); sail(0) = 2; strike(1) = 1; at(0) = 1; strike(0) = 0; at(0) = 1
            """);
        Script.run("24 strike: a hit that a storm took is none by now", CAME + """
            9 times find(9, 0, 0); storm(0); at(0) = 1; hasMap(0) = true; find(8, 0, 0); strike(10) = 1; at(0) = 0
            """);
        Script.run("24 strike: storms alone move no ship",
                CAME + "9 times find(9, 0, 0); storm(0); at(0) = 1; hasMap(0) = true");
        Script.run("24 strike: a rebuilding ahead of it keeps the ship", CAME + """
            9 times find(9, 0, 0); storm(0); rebuild(); strike(5) = 0; at(0) = 1; hasMap(0) = true
            """);
    }

    private static void promise24GivingBack() {
        Script.run("24 strike: it gives back what it took, and the treasure is there again", CAME + """
            dig(0) = 20; coins(0) = 115; strike(0) = 1; coins(0) = 95; isThere(1) = true; at(0) = 0
            """);
        Script.run("24 strike: if it did not dig, it gives nothing back", CAME + """
            strike(0) = 1; coins(0) = 95; isThere(1) = true
            """);
        Script.run("24 strike: what another one took is not given back by it", CAME + """
            ship(); find(1, 1, 0); word(1, 0); sail(1); dig(1) = 20; strike(0) = 1; coins(0) = 95; coins(1) = 115
            isThere(1) = false; strike(1) = 1; coins(1) = 95; isThere(1) = true
            """);
        Script.run("24 strike: if it dug by the sailing before, it gives nothing back", CAME + """
            dig(0) = 20; find(1, 2, 0); word(1, 0); sail(0) = 2; coins(0) = 110; strike(1) = 1; coins(0) = 110
            at(0) = 1
            isThere(1) = false; isThere(2) = true
            """);
        Script.run("24 strike: if it dug by the sailing before to the same island, it gives nothing back", CAME + """
            dig(0) = 20; word(0, 0); sail(0) = 1; strike(0) = 1; coins(0) = 115; isThere(1) = false; at(0) = 1
            """);
        Script.run("24 strike: given back, it is dug anew, and given back anew", CAME + """
            dig(0); strike(0); find(0, 1, 0); word(0, 0); sail(0); coins(0) = 90; dig(0) = 20; coins(0) = 110
            strike(1) = 1; coins(0) = 90; isThere(1) = true
            """);
        Script.run("24 strike: a treasure of 0 is given back",
                "island(0, 0, 0); ship(); find(0, 0, 0); word(0, 0); sail(0)"
                + "; dig(0); isThere(0) = false; strike(0) = 1; isThere(0) = true; coins(0) = 100");
        String[][] spent = {{"19", "20", "0"}, {"20", "15", "0"}, {"18", "25", "5"}};
        for (String[] plants : spent) {
            Script.run("24 strike: as far as it has coins, of 20 with " + plants[1], CAME + "dig(0) = 20; " + plants[0]
                    + " times plant(0, 5, 0, 0); coins(0) = " + plants[1] + "; strike(0) = 1; coins(0) = " + plants[2]
                    + "; isThere(1) = true");
        }
        Script.run("24 strike: with no coins at all", CAME + """
            dig(0) = 20; 23 times plant(0, 5, 0, 0); coins(0) = 0; strike(0) = 1; coins(0) = 0; isThere(1) = true
            """);
        Script.run("24 strike: the 10 coins for its own false word come ahead", ISLES + """
            ship(); plant(0, 0, 1, 0); word(0, 0); sail(0); coins(0) = 90; dig(0) = 20; strike(0) = 1; coins(0) = 80
            """);
    }
}
