import java.util.ArrayList;
import java.util.Comparator;
import java.util.List;
import java.util.NoSuchElementException;
import java.util.TreeMap;

/** A second program to the same document, in the plainest words, for comparison: it counts choices one by one. */
final class PlainModel {
    private record Island(int x, int y, int treasure) {
    }

    private record Told(int word, int island, int place, int rival) {
    }

    private record Leg(int word, int distance) {
    }

    private static final class Boat {
        int at = 0;
        int coins = 100;
        List<Leg> map = null;
        int from = 0;
        int took = -1;
    }

    private final List<Island> islands = new ArrayList<>();
    private final List<Boolean> there = new ArrayList<>();
    private final List<Told> log = new ArrayList<>();
    private final List<Boolean> struck = new ArrayList<>();
    private final List<Boat> boats = new ArrayList<>();
    private final TreeMap<Integer, List<Integer>> segments = new TreeMap<>();
    private int nextSegment = 0;
    private int open = -1;
    private List<Leg> typed = new ArrayList<>();
    private String causes = "";

    PlainModel() {
        openAnother();
    }

    private void openAnother() {
        open = nextSegment++;
        segments.put(open, new ArrayList<>());
    }

    private void store(int find) {
        if (open < 0) {
            openAnother();
        }
        segments.get(open).add(find);
        if (segments.get(open).size() == 10) {
            open = -1;
        }
    }

    private static void range(int number, int last) {
        if (number < 0 || number > last) {
            throw new IllegalArgumentException();
        }
    }

    private static void among(int number, List<?> all) {
        if (number < 0 || number >= all.size()) {
            throw new IndexOutOfBoundsException();
        }
    }

    int island(int x, int y, int treasure) {
        range(x, 99);
        range(y, 99);
        range(treasure, 999);
        if (islands.size() == 12) {
            throw new IllegalStateException();
        }
        islands.add(new Island(x, y, treasure));
        there.add(true);
        return islands.size() - 1;
    }

    int find(int word, int island, int place) {
        among(island, islands);
        range(word, 30);
        range(place, 40);
        noneTooMany();
        return tell(word, island, place, -1);
    }

    private int tell(int word, int island, int place, int rival) {
        log.add(new Told(word, island, place, rival));
        struck.add(false);
        store(log.size() - 1);
        return log.size() - 1;
    }

    private void noneTooMany() {
        if (log.size() == 120 || open < 0 && segments.size() == 20) {
            throw new IllegalStateException();
        }
    }

    int ship() {
        if (boats.size() == 5 || islands.isEmpty()) {
            throw new IllegalStateException();
        }
        boats.add(new Boat());
        return boats.size() - 1;
    }

    int plant(int ship, int word, int island, int place) {
        among(ship, boats);
        among(island, islands);
        range(word, 30);
        range(place, 40);
        if (boats.get(ship).coins < 5) {
            throw new UnsupportedOperationException();
        }
        noneTooMany();
        boats.get(ship).coins -= 5;
        return tell(word, island, place, ship);
    }

    int segments() {
        return segments.size();
    }

    int segment(int index) {
        if (index < 0 || index >= segments.size()) {
            throw new NoSuchElementException();
        }
        return new ArrayList<>(segments.keySet()).get(index);
    }

    int size(int segment) {
        if (!segments.containsKey(segment)) {
            throw new NoSuchElementException();
        }
        return segments.get(segment).size();
    }

    int merge(int one, int other) {
        if (one == other) {
            throw new IllegalArgumentException();
        }
        String row = "";
        row += segments.containsKey(one) ? "" : "s";
        row += segments.containsKey(other) ? "" : "s";
        boolean missing = !row.isEmpty();
        row += open >= 0 && (one == open || other == open) ? "o" : "";
        if (!row.isEmpty()) {
            causes = row;
            if (missing) {
                throw new NoSuchElementException();
            }
            throw new UnsupportedOperationException();
        }
        List<Integer> both = new ArrayList<>(segments.remove(one));
        both.addAll(segments.remove(other));
        both.sort(Comparator.naturalOrder());
        segments.put(nextSegment, both);
        return nextSegment++;
    }

    int storm(int segment) {
        if (!segments.containsKey(segment)) {
            throw new NoSuchElementException();
        }
        if (segment == open) {
            throw new UnsupportedOperationException();
        }
        segments.remove(segment);
        return lost().size();
    }

    private List<Integer> lost() {
        List<Integer> lost = new ArrayList<>();
        for (int i = 0; i < log.size(); i++) {
            if (holder(i) < 0 && !struck.get(i)) {
                lost.add(i);
            }
        }
        return lost;
    }

    private int holder(int find) {
        for (int segment : segments.keySet()) {
            if (segments.get(segment).contains(find)) {
                return segment;
            }
        }
        return -1;
    }

    int rebuild() {
        List<Integer> lost = lost();
        for (int find : lost) {
            store(find);
        }
        return lost.size();
    }

    int segmentOf(int find) {
        among(find, log);
        if (holder(find) < 0) {
            throw new NoSuchElementException();
        }
        return holder(find);
    }

    private List<Integer> row(int word) {
        List<Integer> row = new ArrayList<>();
        for (List<Integer> finds : segments.values()) {
            for (int find : finds) {
                if (log.get(find).word() == word && !struck.get(find)) {
                    row.add(find);
                }
            }
        }
        row.sort(Comparator.<Integer>comparingInt(f -> log.get(f).island())
                .thenComparingInt(f -> log.get(f).place()).thenComparingInt(f -> f));
        return row;
    }

    int postings(int word) {
        range(word, 30);
        return row(word).size();
    }

    int posting(int word, int index) {
        range(word, 30);
        if (index < 0 || index >= row(word).size()) {
            throw new NoSuchElementException();
        }
        return row(word).get(index);
    }

    int word(int word, int distance) {
        range(word, 30);
        if (!typed.isEmpty()) {
            range(distance, 9);
        }
        if (typed.size() == 4) {
            throw new IllegalStateException();
        }
        typed.add(new Leg(word, distance));
        return typed.size();
    }

    int wipe() {
        int had = typed.size();
        typed = new ArrayList<>();
        return had;
    }

    private int choices(List<Leg> map, int island) {
        List<List<Integer>> places = new ArrayList<>();
        for (Leg leg : map) {
            List<Integer> of = new ArrayList<>();
            for (int find : row(leg.word())) {
                if (log.get(find).island() == island) {
                    of.add(log.get(find).place());
                }
            }
            places.add(of);
        }
        return choices(map, places, 0, -1);
    }

    private static int choices(List<Leg> map, List<List<Integer>> places, int leg, int ahead) {
        if (leg == map.size()) {
            return 1;
        }
        int all = 0;
        for (int place : places.get(leg)) {
            if (leg == 0 || place >= ahead + 1 && place <= ahead + map.get(leg).distance() + 1) {
                all += choices(map, places, leg + 1, place);
            }
        }
        return all;
    }

    private List<Integer> hitsOf(List<Leg> map) {
        List<Integer> hits = new ArrayList<>();
        for (int island = 0; island < islands.size(); island++) {
            if (choices(map, island) > 0) {
                hits.add(island);
            }
        }
        return hits;
    }

    private void needMap() {
        if (typed.isEmpty()) {
            throw new UnsupportedOperationException();
        }
    }

    int hits() {
        needMap();
        return hitsOf(typed).size();
    }

    float weight(int word) {
        range(word, 30);
        long with = row(word).stream().map(f -> log.get(f).island()).distinct().count();
        return 1 + (float) islands.size() / (float) (1 + with);
    }

    private float score(List<Leg> map, int island) {
        float sum = 0;
        for (Leg leg : map) {
            sum = sum + weight(leg.word());
        }
        return sum * (float) choices(map, island);
    }

    private int square(int one, int other) {
        int dx = islands.get(one).x() - islands.get(other).x();
        int dy = islands.get(one).y() - islands.get(other).y();
        return dx * dx + dy * dy;
    }

    private List<Integer> ranked(int at) {
        List<Integer> hits = hitsOf(typed);
        float[] scores = new float[islands.size()];
        for (int hit : hits) {
            scores[hit] = score(typed, hit);
        }
        hits.sort((a, b) -> {
            int byScore = Float.compare(scores[b], scores[a]);
            int bySquare = Integer.compare(square(at, a), square(at, b));
            return byScore != 0 ? byScore : bySquare != 0 ? bySquare : Integer.compare(a, b);
        });
        return hits;
    }

    int hit(int ship, int rank) {
        among(ship, boats);
        needMap();
        List<Integer> hits = ranked(boats.get(ship).at);
        if (rank < 0 || rank >= hits.size()) {
            throw new NoSuchElementException();
        }
        return hits.get(rank);
    }

    int count(int island) {
        among(island, islands);
        needMap();
        return choices(typed, island);
    }

    int scoreBits(int island) {
        among(island, islands);
        needMap();
        return choices(typed, island) == 0 ? 0 : Float.floatToIntBits(score(typed, island));
    }

    int sail(int ship) {
        among(ship, boats);
        needMap();
        Boat boat = boats.get(ship);
        List<Integer> hits = ranked(boat.at);
        if (hits.isEmpty()) {
            causes = "h";
            throw new NoSuchElementException();
        }
        int price = (int) Math.sqrt(square(boat.at, hits.get(0)));
        if (boat.coins < price) {
            causes = "c";
            throw new IllegalStateException();
        }
        boat.coins -= price;
        boat.from = boat.at;
        boat.at = hits.get(0);
        boat.map = typed;
        boat.took = -1;
        typed = new ArrayList<>();
        return boat.at;
    }

    int dig(int ship) {
        among(ship, boats);
        Boat boat = boats.get(ship);
        if (boat.map == null || !there.get(boat.at) || choices(boat.map, boat.at) == 0) {
            throw new UnsupportedOperationException();
        }
        boat.took = islands.get(boat.at).treasure();
        boat.coins += boat.took;
        there.set(boat.at, false);
        return boat.took;
    }

    int strike(int find) {
        among(find, log);
        if (struck.get(find)) {
            throw new UnsupportedOperationException();
        }
        struck.set(find, true);
        int rival = log.get(find).rival();
        if (rival >= 0) {
            boats.get(rival).coins = Math.max(0, boats.get(rival).coins - 10);
        }
        int back = 0;
        for (Boat boat : boats) {
            if (boat.map != null && choices(boat.map, boat.at) == 0) {
                if (boat.took >= 0) {
                    boat.coins = Math.max(0, boat.coins - boat.took);
                    there.set(boat.at, true);
                }
                boat.at = boat.from;
                boat.map = null;
                boat.took = -1;
                back++;
            }
        }
        return back;
    }

    int at(int ship) {
        among(ship, boats);
        return boats.get(ship).at;
    }

    int coins(int ship) {
        among(ship, boats);
        return boats.get(ship).coins;
    }

    boolean hasMap(int ship) {
        among(ship, boats);
        return boats.get(ship).map != null;
    }

    boolean isThere(int island) {
        among(island, islands);
        return there.get(island);
    }

    boolean isStruck(int find) {
        among(find, log);
        return struck.get(find);
    }

    int causes() {
        return causes.length();
    }

    char cause(int index) {
        if (index < 0 || index >= causes.length()) {
            throw new NoSuchElementException();
        }
        return causes.charAt(index);
    }

    float struckShare() {
        if (log.isEmpty()) {
            throw new ArithmeticException();
        }
        return (float) struck.stream().filter(s -> s).count() / (float) log.size();
    }

    double meanSize() {
        return segments.values().stream().mapToInt(List::size).average().orElse(0.0);
    }

    long checksum() {
        long sum = 7;
        for (int i = 0; i < log.size(); i++) {
            sum = sum * 31 + log.get(i).word();
            sum = sum * 31 + log.get(i).island();
            sum = sum * 31 + log.get(i).place() + (struck.get(i) ? 100 : 0);
        }
        return sum;
    }
}
