import java.util.Random;

/** Long runs of calls by fixed seeds: each answer, and the whole state, is compared with the plain model's. */
public final class ModelTest {
    private static final int RUNS = 800;
    private static final int CALLS = 300;
    private static final int LOOK_EVERY = 20;
    private static final int[] EXTREMES = {Integer.MIN_VALUE, -1, 99, 1000, Integer.MAX_VALUE};

    private final Random chance;
    private final Pirateindex x = new Pirateindex();
    private final PlainModel y = new PlainModel();
    private final String name;
    private final int words;
    private final int islands;
    private final int places;
    private final boolean strict;
    private int callsMade = 0;

    private ModelTest(int seed) {
        chance = new Random(seed);
        name = "run " + seed;
        words = 1 + chance.nextInt(6);
        islands = 1 + chance.nextInt(6);
        places = 3 + chance.nextInt(38);
        strict = chance.nextBoolean();
    }

    public static void main(String[] args) {
        for (int seed = 0; seed < RUNS; seed++) {
            new ModelTest(seed).run();
        }
        Check.end("ModelTest");
    }

    private void run() {
        for (int i = 0; i < islands; i++) {
            island(chance.nextInt(100), chance.nextInt(100), chance.nextInt(60));
        }
        for (int i = chance.nextInt(6); i > 0; i--) {
            ship();
        }
        for (int i = 0; i < CALLS; i++) {
            step();
            if (i % LOOK_EVERY == 0) {
                look();
            }
        }
        look();
    }

    /** Now and then a number far off. */
    private int some(int bound) {
        return chance.nextInt(60) == 0 ? EXTREMES[chance.nextInt(EXTREMES.length)] : chance.nextInt(bound);
    }

    private void step() {
        int kind = chance.nextInt(100);
        if (strict && kind < 20) {
            strike(some(60));
        } else if (kind < 30) {
            find(some(words), some(islands), some(places));
        } else if (kind < 45) {
            word(some(words), some(4));
        } else if (kind < 57) {
            sail(some(5));
        } else if (kind < 65) {
            dig(some(5));
        } else if (kind < 70) {
            strike(some(60));
        } else if (kind < 75) {
            segmentStep();
        } else {
            rareStep(kind);
        }
    }

    private void segmentStep() {
        int kind = chance.nextInt(4);
        if (kind == 0) {
            storm(some(14));
        } else if (kind == 1) {
            rebuild();
        } else {
            merge(some(10), some(10));
        }
    }

    private void rareStep(int kind) {
        if (kind < 80) {
            plant(some(5), some(words), some(islands), some(places));
        } else if (kind < 83) {
            ship();
        } else if (kind < 84) {
            island(some(100), some(100), some(60));
        } else if (kind < 85) {
            wipe();
        } else if (kind < 90) {
            hit(some(5), some(3));
        } else if (kind < 95) {
            count(some(islands));
        } else {
            scoreBits(some(islands));
        }
    }

    private void look() {
        for (int i = -1; i <= 12; i++) {
            island(i);
            segment(i);
            ship(i);
        }
        for (int i = 0; i <= 120; i += 1 + chance.nextInt(9)) {
            aFind(i);
        }
        for (int i = 0; i <= words; i++) {
            aWord(i);
        }
        same("segments()", String.valueOf(y.segments()), String.valueOf(x.segments()));
        same("causes()", String.valueOf(y.causes()), String.valueOf(x.causes()));
        for (int i = 0; i < 3; i++) {
            int at = i;
            same("cause(" + at + ")", Check.told(() -> y.cause(at)), Check.told(() -> x.cause(at)));
        }
        same("hits()", Check.told(y::hits), Check.told(x::hits));
        same("struckShare()", Check.told(y::struckShare), Check.told(x::struckShare));
        same("meanSize()", Check.told(y::meanSize), Check.told(x::meanSize));
        same("checksum()", Check.told(y::checksum), Check.told(x::checksum));
        same("isTrue()", "true", Check.told(x::isTrue));
    }

    private void island(int i) {
        same("isThere(" + i + ")", Check.told(() -> y.isThere(i)), Check.told(() -> x.isThere(i)));
        count(i);
        scoreBits(i);
    }

    private void segment(int i) {
        same("segment(" + i + ")", Check.told(() -> y.segment(i)), Check.told(() -> x.segment(i)));
        same("size(" + i + ")", Check.told(() -> y.size(i)), Check.told(() -> x.size(i)));
    }

    private void ship(int i) {
        same("at(" + i + ")", Check.told(() -> y.at(i)), Check.told(() -> x.at(i)));
        same("coins(" + i + ")", Check.told(() -> y.coins(i)), Check.told(() -> x.coins(i)));
        same("hasMap(" + i + ")", Check.told(() -> y.hasMap(i)), Check.told(() -> x.hasMap(i)));
        if (i < 2) {
            for (int rank = 0; rank < 4; rank++) {
                hit(i, rank);
            }
        }
    }

    private void aFind(int i) {
        same("segmentOf(" + i + ")", Check.told(() -> y.segmentOf(i)), Check.told(() -> x.segmentOf(i)));
        same("isStruck(" + i + ")", Check.told(() -> y.isStruck(i)), Check.told(() -> x.isStruck(i)));
    }

    private void aWord(int i) {
        same("weight(" + i + ")", Check.told(() -> y.weight(i)), Check.told(() -> x.weight(i)));
        same("postings(" + i + ")", Check.told(() -> y.postings(i)), Check.told(() -> x.postings(i)));
        for (int k = 0; k < 12; k += 1 + chance.nextInt(3)) {
            int at = k;
            same("posting(" + i + ", " + k + ")", Check.told(() -> y.posting(i, at)),
                    Check.told(() -> x.posting(i, at)));
        }
    }

    private void same(String call, String want, String got) {
        Check.same(name + ", call " + callsMade + ", " + call, want, got);
        callsMade++;
    }

    private void island(int a, int b, int c) {
        same("island(" + a + ", " + b + ", " + c + ")", Check.told(() -> y.island(a, b, c)),
                Check.told(() -> x.island(a, b, c)));
    }

    private void find(int a, int b, int c) {
        same("find(" + a + ", " + b + ", " + c + ")", Check.told(() -> y.find(a, b, c)),
                Check.told(() -> x.find(a, b, c)));
    }

    private void plant(int a, int b, int c, int d) {
        same("plant(" + a + ", " + b + ", " + c + ", " + d + ")", Check.told(() -> y.plant(a, b, c, d)),
                Check.told(() -> x.plant(a, b, c, d)));
    }

    private void ship() {
        same("ship()", Check.told(y::ship), Check.told(x::ship));
    }

    private void word(int a, int b) {
        same("word(" + a + ", " + b + ")", Check.told(() -> y.word(a, b)), Check.told(() -> x.word(a, b)));
    }

    private void wipe() {
        same("wipe()", Check.told(y::wipe), Check.told(x::wipe));
    }

    private void sail(int a) {
        same("sail(" + a + ")", Check.told(() -> y.sail(a)), Check.told(() -> x.sail(a)));
    }

    private void dig(int a) {
        same("dig(" + a + ")", Check.told(() -> y.dig(a)), Check.told(() -> x.dig(a)));
    }

    private void strike(int a) {
        same("strike(" + a + ")", Check.told(() -> y.strike(a)), Check.told(() -> x.strike(a)));
    }

    private void storm(int a) {
        same("storm(" + a + ")", Check.told(() -> y.storm(a)), Check.told(() -> x.storm(a)));
    }

    private void rebuild() {
        same("rebuild()", Check.told(y::rebuild), Check.told(x::rebuild));
    }

    private void merge(int a, int b) {
        same("merge(" + a + ", " + b + ")", Check.told(() -> y.merge(a, b)), Check.told(() -> x.merge(a, b)));
    }

    private void hit(int a, int b) {
        same("hit(" + a + ", " + b + ")", Check.told(() -> y.hit(a, b)), Check.told(() -> x.hit(a, b)));
    }

    private void count(int a) {
        same("count(" + a + ")", Check.told(() -> y.count(a)), Check.told(() -> x.count(a)));
    }

    private void scoreBits(int a) {
        same("scoreBits(" + a + ")", Check.told(() -> y.scoreBits(a)), Check.told(() -> x.scoreBits(a)));
    }
}
