import java.util.Random;

/** Long runs of calls by fixed seeds: each answer, and the whole state, is compared with the plain model's. */
public final class ModelTest {
    private static final int RUNS = 4000;
    private static final int MOST_CALLS = 512;
    private static final int[] EXTREMES = {Integer.MIN_VALUE, -1, 99, 1000, Integer.MAX_VALUE};

    private final Random chance;
    private final Pirateindex x = new Pirateindex();
    private final PlainModel y = new PlainModel();
    private final String name;
    private final int words;
    private final int islands;
    private final int places;
    private final boolean strict;
    private final int lookEvery;
    private int callsMade = 0;

    private ModelTest(int seed) {
        chance = new Random(seed);
        name = "run " + seed;
        words = 1 + chance.nextInt(6);
        islands = 1 + chance.nextInt(6);
        places = 3 + chance.nextInt(38);
        strict = chance.nextBoolean();
        lookEvery = 20 + chance.nextInt(300);
    }

    public static void main(String[] args) {
        for (int seed = 0; seed < RUNS; seed++) {
            new ModelTest(seed).run();
        }
        Check.end("ModelTest");
    }

    private void run() {
        for (int i = 0; i < islands; i++) {
            island(chance.nextInt(100), chance.nextInt(100), chance.nextInt(60));
        }
        for (int i = chance.nextInt(6); i > 0; i--) {
            ship();
        }
        for (int i = 1; callsMade < MOST_CALLS; i++) {
            step();
            if (i % lookEvery == 0) {
                look();
            }
        }
    }

    /** Now and then a number far off. */
    private int some(int bound) {
        return chance.nextInt(60) == 0 ? EXTREMES[chance.nextInt(EXTREMES.length)] : chance.nextInt(bound);
    }

    private void step() {
        int kind = chance.nextInt(100);
        if (strict && kind < 20) {
            strike(some(60));
        } else if (kind < 30) {
            find(some(words), some(islands), some(places));
        } else if (kind < 45) {
            word(some(words), some(4));
        } else if (kind < 57) {
            sail(some(5));
        } else if (kind < 65) {
            dig(some(5));
        } else if (kind < 70) {
            strike(some(60));
        } else if (kind < 75) {
            segmentStep();
        } else {
            rareStep(kind);
        }
    }

    private void segmentStep() {
        int kind = chance.nextInt(4);
        if (kind == 0) {
            storm(some(14));
        } else if (kind == 1) {
            rebuild();
        } else {
            merge(some(10), some(10));
        }
    }

    private void rareStep(int kind) {
        if (kind < 80) {
            plant(some(5), some(words), some(islands), some(places));
        } else if (kind < 83) {
            ship();
        } else if (kind < 84) {
            island(some(100), some(100), some(60));
        } else if (kind < 85) {
            wipe();
        } else if (kind < 90) {
            hit(some(5), some(3));
        } else if (kind < 95) {
            count(some(islands));
        } else {
            scoreBits(some(islands));
        }
    }

    private void look() {
        for (int i = -1; i <= 12; i++) {
            island(i);
            segment(i);
            ship(i);
        }
        for (int i = 0; i <= 120; i += 1 + chance.nextInt(9)) {
            aFind(i);
        }
        for (int i = 0; i <= words; i++) {
            aWord(i);
        }
        same("segments()", y::segments, x::segments);
        same("causes()", y::causes, x::causes);
        for (int i = 0; i < 3; i++) {
            int at = i;
            same("cause(" + at + ")", () -> y.cause(at), () -> x.cause(at));
        }
        same("hits()", y::hits, x::hits);
        same("struckShare()", y::struckShare, x::struckShare);
        same("meanSize()", y::meanSize, x::meanSize);
        same("checksum()", y::checksum, x::checksum);
        same("isTrue()", () -> true, x::isTrue);
    }

    private void island(int i) {
        same("isThere(" + i + ")", () -> y.isThere(i), () -> x.isThere(i));
        count(i);
        scoreBits(i);
    }

    private void segment(int i) {
        same("segment(" + i + ")", () -> y.segment(i), () -> x.segment(i));
        same("size(" + i + ")", () -> y.size(i), () -> x.size(i));
    }

    private void ship(int i) {
        same("at(" + i + ")", () -> y.at(i), () -> x.at(i));
        same("coins(" + i + ")", () -> y.coins(i), () -> x.coins(i));
        same("hasMap(" + i + ")", () -> y.hasMap(i), () -> x.hasMap(i));
        if (i < 2) {
            for (int rank = 0; rank < 4; rank++) {
                hit(i, rank);
            }
        }
    }

    private void aFind(int i) {
        same("segmentOf(" + i + ")", () -> y.segmentOf(i), () -> x.segmentOf(i));
        same("isStruck(" + i + ")", () -> y.isStruck(i), () -> x.isStruck(i));
    }

    private void aWord(int i) {
        same("weight(" + i + ")", () -> y.weight(i), () -> x.weight(i));
        same("postings(" + i + ")", () -> y.postings(i), () -> x.postings(i));
        for (int k = 0; k < 12; k += 1 + chance.nextInt(3)) {
            int at = k;
            same("posting(" + i + ", " + k + ")", () -> y.posting(i, at),
                    () -> x.posting(i, at));
        }
    }

    /** Makes no call any more when the object has had all that the document allows. */
    private void same(String call, Check.Call want, Check.Call got) {
        if (callsMade < MOST_CALLS) {
            Check.same(name + ", call " + callsMade + ", " + call, Check.told(want), Check.told(got));
            callsMade++;
        }
    }

    private void island(int a, int b, int c) {
        same("island(" + a + ", " + b + ", " + c + ")", () -> y.island(a, b, c),
                () -> x.island(a, b, c));
    }

    private void find(int a, int b, int c) {
        same("find(" + a + ", " + b + ", " + c + ")", () -> y.find(a, b, c),
                () -> x.find(a, b, c));
    }

    private void plant(int a, int b, int c, int d) {
        same("plant(" + a + ", " + b + ", " + c + ", " + d + ")", () -> y.plant(a, b, c, d),
                () -> x.plant(a, b, c, d));
    }

    private void ship() {
        same("ship()", y::ship, x::ship);
    }

    private void word(int a, int b) {
        same("word(" + a + ", " + b + ")", () -> y.word(a, b), () -> x.word(a, b));
    }

    private void wipe() {
        same("wipe()", y::wipe, x::wipe);
    }

    private void sail(int a) {
        same("sail(" + a + ")", () -> y.sail(a), () -> x.sail(a));
    }

    private void dig(int a) {
        same("dig(" + a + ")", () -> y.dig(a), () -> x.dig(a));
    }

    private void strike(int a) {
        same("strike(" + a + ")", () -> y.strike(a), () -> x.strike(a));
    }

    private void storm(int a) {
        same("storm(" + a + ")", () -> y.storm(a), () -> x.storm(a));
    }

    private void rebuild() {
        same("rebuild()", y::rebuild, x::rebuild);
    }

    private void merge(int a, int b) {
        same("merge(" + a + ", " + b + ")", () -> y.merge(a, b), () -> x.merge(a, b));
    }

    private void hit(int a, int b) {
        same("hit(" + a + ", " + b + ")", () -> y.hit(a, b), () -> x.hit(a, b));
    }

    private void count(int a) {
        same("count(" + a + ")", () -> y.count(a), () -> x.count(a));
    }

    private void scoreBits(int a) {
        same("scoreBits(" + a + ")", () -> y.scoreBits(a), () -> x.scoreBits(a));
    }
}
