import java.util.ArrayList;
import java.util.Arrays;
import java.util.NoSuchElementException;

/**
 * A treasure hunt over an index of words: finds are logged and put into segments, maps are typed,
 * ships sail by them and dig, and judges strike finds. DOC.md tells every promise.
 */
public final class Pirateindex {
    private static final int MOST_ISLANDS = 12;
    private static final int LAST_COORDINATE = 99;
    private static final int LAST_TREASURE = 999;
    private static final int LAST_WORD = 30;
    private static final int LAST_PLACE = 40;
    private static final int MOST_FINDS = 120;
    private static final int SEGMENT_ROOM = 10;
    private static final int MOST_SEGMENTS = 20;
    private static final int MOST_MAP_WORDS = 4;
    private static final int LAST_DISTANCE = 9;
    private static final int MOST_SHIPS = 5;
    private static final int FIRST_COINS = 100;
    private static final int PLANT_PRICE = 5;
    private static final int STRIKE_FINE = 10;
    private static final int NONE = -1;

    private static final int FLOAT_ONE_EXPONENT = 127;
    private static final int FLOAT_LAST_EXPONENT = 254;
    private static final int FLOAT_FRACTION_BITS = 23;

    private final ArrayList<Isle> isles;
    private final ArrayList<Find> log;
    private final Index index;
    private final Tally tally;
    private final Shelf shelf;
    private final ArrayList<Ship> fleet;
    private final Phrase typed;
    private final StringBuilder causeRow;
    private final ArrayList<Find> gathered;

    public Pirateindex() {
        isles = new ArrayList<>();
        log = new ArrayList<>();
        index = new Index();
        tally = new Tally();
        shelf = new Shelf();
        fleet = new ArrayList<>();
        typed = new Phrase();
        causeRow = new StringBuilder();
        gathered = new ArrayList<>();
    }

    // Islands, finds and ships come

    public int island(int x, int y, int treasure) throws IllegalArgumentException, IllegalStateException {
        requireRange(x, LAST_COORDINATE);
        requireRange(y, LAST_COORDINATE);
        requireRange(treasure, LAST_TREASURE);
        if (isles.size() >= MOST_ISLANDS) {
            throw new IllegalStateException("there are 12 islands");
        }
        Isle isle = new Isle(isles.size(), x, y, treasure);
        isles.add(isle);
        return isle.number;
    }

    public int find(int word, int island, int place)
            throws IndexOutOfBoundsException, IllegalArgumentException, IllegalStateException {
        isleOf(island);
        requireRange(word, LAST_WORD);
        requireRange(place, LAST_PLACE);
        requireRoomForFind();
        return enter(new Find(log.size(), word, island, place, null));
    }

    public int ship() throws IllegalStateException {
        if (fleet.size() >= MOST_SHIPS) {
            throw new IllegalStateException("there are 5 ships");
        }
        if (isles.isEmpty()) {
            throw new IllegalStateException("there is no island");
        }
        fleet.add(new Ship(isles.get(0)));
        return fleet.size() - 1;
    }

    public int plant(int ship, int word, int island, int place)
            throws IndexOutOfBoundsException, IllegalArgumentException, UnsupportedOperationException,
            IllegalStateException {
        Ship rival = shipOf(ship);
        isleOf(island);
        requireRange(word, LAST_WORD);
        requireRange(place, LAST_PLACE);
        if (rival.purse < PLANT_PRICE) {
            throw new UnsupportedOperationException("too few coins");
        }
        requireRoomForFind();
        rival.pay(PLANT_PRICE);
        return enter(new Find(log.size(), word, island, place, rival));
    }

    // Segments

    public int segments() {
        return shelf.row.size();
    }

    public int segment(int index) throws NoSuchElementException {
        if (index < 0 || index >= shelf.row.size()) {
            throw new NoSuchElementException("no such segment");
        }
        return shelf.row.get(index).number;
    }

    public int size(int segment) throws NoSuchElementException {
        return segmentNumbered(segment).finds.size();
    }

    public int merge(int one, int other)
            throws IllegalArgumentException, NoSuchElementException, UnsupportedOperationException {
        if (one == other) {
            throw new IllegalArgumentException("both segments are the same");
        }
        leaveMergeCauses(shelf.numbered(one), shelf.numbered(other));
        Segment first = segmentNumbered(one);
        Segment second = segmentNumbered(other);
        requireClosed(first);
        requireClosed(second);
        return shelf.unite(first, second, log).number;
    }

    public int storm(int segment) throws NoSuchElementException, UnsupportedOperationException {
        Segment dropped = segmentNumbered(segment);
        requireClosed(dropped);
        shelf.lose(dropped);
        takeFromIndex(dropped);
        return lostFinds();
    }

    public int rebuild() throws IllegalStateException {
        int lost = lostFinds();
        if (!shelf.hasRoomFor(lost)) {
            leaveCause('f');
            throw new IllegalStateException("more than 20 segments");
        }
        for (int i = 0; i < log.size(); i++) {
            if (log.get(i).isLost()) {
                store(log.get(i));
            }
        }
        return lost;
    }

    public int segmentOf(int find) throws IndexOutOfBoundsException, NoSuchElementException {
        Segment segment = findNumbered(find).segment;
        if (segment == null) {
            throw new NoSuchElementException("the find is in no segment");
        }
        return segment.number;
    }

    public double meanSize() {
        if (shelf.row.isEmpty()) {
            return 0.0;
        }
        int sum = 0;
        for (int i = 0; i < shelf.row.size(); i++) {
            sum += shelf.row.get(i).finds.size();
        }
        return (double) sum / (double) shelf.row.size();
    }

    // The index

    public int postings(int word) throws IllegalArgumentException {
        requireRange(word, LAST_WORD);
        return index.postingsOf(word);
    }

    public int posting(int word, int index) throws IllegalArgumentException, NoSuchElementException {
        requireRange(word, LAST_WORD);
        Find found = this.index.postingAt(word, index);
        if (found == null) {
            throw new NoSuchElementException("no such posting");
        }
        return found.number;
    }

    public float weight(int word) throws IllegalArgumentException {
        requireRange(word, LAST_WORD);
        return weightOf(word);
    }

    // The map that is typed, and its hits

    public int word(int word, int distance) throws IllegalArgumentException, IllegalStateException {
        requireRange(word, LAST_WORD);
        boolean first = typed.isEmpty();
        if (!first) {
            requireRange(distance, LAST_DISTANCE);
        }
        if (typed.length >= MOST_MAP_WORDS) {
            throw new IllegalStateException("the map has 4 words");
        }
        typed.append(word, first ? 0 : distance);
        return typed.length;
    }

    public int wipe() {
        int had = typed.length;
        typed.clear();
        return had;
    }

    public int hits() throws UnsupportedOperationException {
        requireMap();
        int hits = 0;
        for (int i = 0; i < isles.size(); i++) {
            if (isHit(typed, isles.get(i))) {
                hits++;
            }
        }
        return hits;
    }

    public int hit(int ship, int rank)
            throws IndexOutOfBoundsException, UnsupportedOperationException, NoSuchElementException {
        Ship viewer = shipOf(ship);
        requireMap();
        Isle isle = hitRanked(rank, viewer.where);
        if (isle == null) {
            throw new NoSuchElementException("no such hit");
        }
        return isle.number;
    }

    public int count(int island) throws IndexOutOfBoundsException, UnsupportedOperationException {
        Isle isle = isleOf(island);
        requireMap();
        return choicesOn(isle, typed);
    }

    public int scoreBits(int island) throws IndexOutOfBoundsException, UnsupportedOperationException {
        Isle isle = isleOf(island);
        requireMap();
        int choices = choicesOn(isle, typed);
        return choices == 0 ? 0 : bitsOf(weightOfMap(typed) * (float) choices);
    }

    // Ships sail and dig

    public int sail(int ship)
            throws IndexOutOfBoundsException, UnsupportedOperationException, NoSuchElementException,
            IllegalStateException {
        Ship sailor = shipOf(ship);
        requireMap();
        Isle goal = hitRanked(0, sailor.where);
        if (goal == null) {
            leaveCause('h');
            throw new NoSuchElementException("no hit");
        }
        int price = rootOf(goal.squareTo(sailor.where));
        if (sailor.purse < price) {
            leaveCause('c');
            throw new IllegalStateException("too few coins");
        }
        sailor.sailTo(goal, typed, price);
        typed.clear();
        return goal.number;
    }

    public int dig(int ship) throws IndexOutOfBoundsException, UnsupportedOperationException {
        Ship digger = shipOf(ship);
        if (digger.map.isEmpty()) {
            throw new UnsupportedOperationException("the ship did not come by a map");
        }
        if (!digger.where.treasureThere) {
            throw new UnsupportedOperationException("the treasure is taken");
        }
        if (!isHit(digger.map, digger.where)) {
            throw new UnsupportedOperationException("the island is no hit any more");
        }
        return digger.takeTreasure();
    }

    public int at(int ship) throws IndexOutOfBoundsException {
        return shipOf(ship).where.number;
    }

    public int coins(int ship) throws IndexOutOfBoundsException {
        return shipOf(ship).purse;
    }

    public boolean hasMap(int ship) throws IndexOutOfBoundsException {
        return !shipOf(ship).map.isEmpty();
    }

    public boolean isThere(int island) throws IndexOutOfBoundsException {
        return isleOf(island).treasureThere;
    }

    // Judges

    public int strike(int find) throws IndexOutOfBoundsException, UnsupportedOperationException {
        Find judged = findNumbered(find);
        if (judged.struck) {
            throw new UnsupportedOperationException("the find is struck");
        }
        judged.struck = true;
        index.leave(judged);
        if (judged.rival != null) {
            judged.rival.pay(STRIKE_FINE);
        }
        return sendShipsBack();
    }

    public boolean isStruck(int find) throws IndexOutOfBoundsException {
        return findNumbered(find).struck;
    }

    public float struckShare() throws ArithmeticException {
        if (log.isEmpty()) {
            throw new ArithmeticException("there are no finds");
        }
        int struck = 0;
        for (int i = 0; i < log.size(); i++) {
            if (log.get(i).struck) {
                struck++;
            }
        }
        return (float) struck / (float) log.size();
    }

    // Causes, and what holds over all

    public int causes() {
        return causeRow.length();
    }

    public char cause(int index) throws NoSuchElementException {
        if (index < 0 || index >= causeRow.length()) {
            throw new NoSuchElementException("no such cause");
        }
        return causeRow.charAt(index);
    }

    public long checksum() {
        long sum = 7;
        for (int i = 0; i < log.size(); i++) {
            Find find = log.get(i);
            sum = 31 * sum + find.word;
            sum = 31 * sum + find.island;
            sum = 31 * sum + find.place;
            if (find.struck) {
                sum += 100;
            }
        }
        return sum;
    }

    public boolean isTrue() {
        return findsAreInOneSegment() && postingsAreUnstruck() && pursesHold() && hitsAgree();
    }

    // What a call needs

    private static void requireRange(int number, int last) {
        if (number < 0 || number > last) {
            throw new IllegalArgumentException("a number is out of range");
        }
    }

    private Isle isleOf(int number) {
        if (number < 0 || number >= isles.size()) {
            throw new IndexOutOfBoundsException("no such island");
        }
        return isles.get(number);
    }

    private Ship shipOf(int number) {
        if (number < 0 || number >= fleet.size()) {
            throw new IndexOutOfBoundsException("no such ship");
        }
        return fleet.get(number);
    }

    private Find findNumbered(int number) {
        if (number < 0 || number >= log.size()) {
            throw new IndexOutOfBoundsException("no such find");
        }
        return log.get(number);
    }

    private Segment segmentNumbered(int number) {
        Segment segment = shelf.numbered(number);
        if (segment == null) {
            throw new NoSuchElementException("no such segment");
        }
        return segment;
    }

    private void requireClosed(Segment segment) {
        if (shelf.isOpen(segment)) {
            throw new UnsupportedOperationException("the segment is open");
        }
    }

    private void requireMap() {
        if (typed.isEmpty()) {
            throw new UnsupportedOperationException("the map is empty");
        }
    }

    private void requireRoomForFind() {
        if (log.size() >= MOST_FINDS) {
            throw new IllegalStateException("there are 120 finds");
        }
        if (!shelf.hasRoomFor(1)) {
            throw new IllegalStateException("there are 20 segments");
        }
    }

    // The steps of the calls

    private int enter(Find find) {
        log.add(find);
        store(find);
        return find.number;
    }

    private void store(Find find) {
        shelf.put(find);
        index.enter(find);
    }

    private void takeFromIndex(Segment dropped) {
        for (int i = 0; i < dropped.finds.size(); i++) {
            index.leave(dropped.finds.get(i));
        }
    }

    private int lostFinds() {
        int lost = 0;
        for (int i = 0; i < log.size(); i++) {
            if (log.get(i).isLost()) {
                lost++;
            }
        }
        return lost;
    }

    private void leaveCause(char cause) {
        causeRow.setLength(0);
        causeRow.append(cause);
    }

    /** Leaves the row as it is if neither segment is wrong. */
    private void leaveMergeCauses(Segment one, Segment other) {
        boolean missing = one == null || other == null;
        boolean open = shelf.isOpen(one) || shelf.isOpen(other);
        if (!missing && !open) {
            return;
        }
        causeRow.setLength(0);
        if (one == null) {
            causeRow.append('s');
        }
        if (other == null) {
            causeRow.append('s');
        }
        if (open) {
            causeRow.append('o');
        }
    }

    private int sendShipsBack() {
        int sent = 0;
        for (int i = 0; i < fleet.size(); i++) {
            Ship ship = fleet.get(i);
            if (!ship.map.isEmpty() && !isHit(ship.map, ship.where)) {
                ship.goBack();
                sent++;
            }
        }
        return sent;
    }

    // Hits and their ranks

    private int choicesOn(Isle isle, Phrase map) {
        return tally.choices(index.row, map, isle.number);
    }

    private boolean isHit(Phrase map, Isle isle) {
        return choicesOn(isle, map) > 0;
    }

    private float weightOf(int word) {
        return 1f + (float) isles.size() / (float) (1 + index.islandsOf(word));
    }

    private float weightOfMap(Phrase map) {
        float sum = 0f;
        for (int i = 0; i < map.length; i++) {
            sum += weightOf(map.wordAt(i));
        }
        return sum;
    }

    private void scoreIsles() {
        float weight = weightOfMap(typed);
        for (int i = 0; i < isles.size(); i++) {
            Isle isle = isles.get(i);
            isle.score = weight * (float) choicesOn(isle, typed);
        }
    }

    /** The hit of the typed map at a rank, seen from an island; null if there is none. */
    private Isle hitRanked(int rank, Isle from) {
        scoreIsles();
        for (int i = 0; i < isles.size(); i++) {
            Isle isle = isles.get(i);
            if (isle.score > 0f && hitsAheadOf(isle, from) == rank) {
                return isle;
            }
        }
        return null;
    }

    private int hitsAheadOf(Isle isle, Isle from) {
        int ahead = 0;
        for (int i = 0; i < isles.size(); i++) {
            if (isles.get(i).ranksAheadOf(isle, from)) {
                ahead++;
            }
        }
        return ahead;
    }

    /** The bits of a finite float of 1 or more, halved down to the span from 1 to 2 without loss. */
    private static int bitsOf(float number) {
        int exponent = FLOAT_ONE_EXPONENT;
        float rest = number;
        while (rest >= 2f && exponent < FLOAT_LAST_EXPONENT) {
            rest = rest / 2f;
            exponent++;
        }
        int fraction = (int) ((rest - 1f) * (float) (1 << FLOAT_FRACTION_BITS));
        return (exponent << FLOAT_FRACTION_BITS) + fraction;
    }

    private static int rootOf(int square) {
        int root = 0;
        while (root < 2 * LAST_COORDINATE && (root + 1) * (root + 1) <= square) {
            root++;
        }
        return root;
    }

    // The parts of isTrue

    private boolean findsAreInOneSegment() {
        for (int i = 0; i < log.size(); i++) {
            Find find = log.get(i);
            if (shelf.timesHeld(find) != (find.segment == null ? 0 : 1)) {
                return false;
            }
        }
        return true;
    }

    private boolean postingsAreUnstruck() {
        for (int i = 0; i < index.row.size(); i++) {
            if (index.row.get(i).struck) {
                return false;
            }
        }
        return true;
    }

    private boolean pursesHold() {
        for (int i = 0; i < fleet.size(); i++) {
            if (fleet.get(i).purse < 0) {
                return false;
            }
        }
        return true;
    }

    private boolean hitsAgree() {
        shelf.gatherUnstruck(gathered);
        for (int i = 0; i < isles.size(); i++) {
            Isle isle = isles.get(i);
            if (tally.choices(gathered, typed, isle.number) != choicesOn(isle, typed)) {
                return false;
            }
        }
        return true;
    }

    /** An island, with its score by the map that was looked at last. */
    private static final class Isle {
        final int number;
        final int x;
        final int y;
        final int treasure;
        boolean treasureThere;
        float score;

        Isle(int number, int x, int y, int treasure) {
            this.number = number;
            this.x = x;
            this.y = y;
            this.treasure = treasure;
            treasureThere = true;
        }

        int squareTo(Isle other) {
            int across = x - other.x;
            int along = y - other.y;
            return across * across + along * along;
        }

        boolean ranksAheadOf(Isle other, Isle from) {
            if (score != other.score) {
                return score > other.score;
            }
            int square = squareTo(from);
            int otherSquare = other.squareTo(from);
            return square != otherSquare ? square < otherSquare : number < other.number;
        }
    }

    /** A find of the log; its rival is null unless it is a false one, its segment null if it is in none. */
    private static final class Find {
        final int number;
        final int word;
        final int island;
        final int place;
        final Ship rival;
        Segment segment;
        boolean struck;

        Find(int number, int word, int island, int place, Ship rival) {
            this.number = number;
            this.word = word;
            this.island = island;
            this.place = place;
            this.rival = rival;
        }

        boolean isLost() {
            return segment == null && !struck;
        }

        boolean standsBefore(Find other) {
            if (island != other.island) {
                return island < other.island;
            }
            return place != other.place ? place < other.place : number < other.number;
        }
    }

    /** The postings of all words: the finds in segments that are not struck, by islands, places and numbers. */
    private static final class Index {
        final ArrayList<Find> row;

        Index() {
            row = new ArrayList<>();
        }

        void enter(Find find) {
            int spot = row.size();
            while (spot > 0 && find.standsBefore(row.get(spot - 1))) {
                spot--;
            }
            row.add(spot, find);
        }

        /** A find that is no posting, as it is struck or in no segment, is not there to leave. */
        void leave(Find find) {
            for (int i = 0; i < row.size(); i++) {
                if (row.get(i) == find) {
                    row.remove(i);
                    return;
                }
            }
        }

        int postingsOf(int word) {
            int found = 0;
            for (int i = 0; i < row.size(); i++) {
                if (row.get(i).word == word) {
                    found++;
                }
            }
            return found;
        }

        /** Null if there is none. */
        Find postingAt(int word, int index) {
            int passed = 0;
            for (int i = 0; i < row.size(); i++) {
                Find find = row.get(i);
                if (find.word == word) {
                    if (passed == index) {
                        return find;
                    }
                    passed++;
                }
            }
            return null;
        }

        int islandsOf(int word) {
            int islands = 0;
            int last = NONE;
            for (int i = 0; i < row.size(); i++) {
                Find find = row.get(i);
                if (find.word == word && find.island != last) {
                    islands++;
                    last = find.island;
                }
            }
            return islands;
        }
    }

    /** Counts choices of postings by the places at which their last ones stand. */
    private static final class Tally {
        private final int[] here;
        private final int[] ends;

        Tally() {
            here = new int[LAST_PLACE + 1];
            ends = new int[LAST_PLACE + 1];
        }

        int choices(ArrayList<Find> finds, Phrase map, int island) {
            Arrays.fill(ends, 0);
            for (int i = 0; i < map.length; i++) {
                lookFor(finds, map.wordAt(i), island);
                if (i == 0) {
                    begin();
                } else {
                    follow(map.distanceAt(i));
                }
            }
            return sumOfEnds(0, LAST_PLACE);
        }

        private void lookFor(ArrayList<Find> finds, int word, int island) {
            Arrays.fill(here, 0);
            for (int i = 0; i < finds.size(); i++) {
                Find find = finds.get(i);
                boolean wanted = find.word == word && find.island == island;
                if (wanted && find.place >= 0 && find.place < here.length) {
                    here[find.place]++;
                }
            }
        }

        private void begin() {
            System.arraycopy(here, 0, ends, 0, Math.min(here.length, ends.length));
        }

        /** From the last place down, as the ends ahead of a place must still be those of the word ahead. */
        private void follow(int distance) {
            for (int place = Math.min(here.length, ends.length) - 1; place >= 0; place--) {
                ends[place] = here[place] * sumOfEnds(place - 1 - distance, place - 1);
            }
        }

        private int sumOfEnds(int first, int last) {
            int sum = 0;
            for (int place = first < 0 ? 0 : first; place <= last && place < ends.length; place++) {
                sum += ends[place];
            }
            return sum;
        }
    }

    /** A segment with its finds, by the order in which it took them. */
    private static final class Segment {
        final int number;
        final ArrayList<Find> finds;

        Segment(int number) {
            this.number = number;
            finds = new ArrayList<>();
        }

        void take(Find find) {
            finds.add(find);
            find.segment = this;
        }
    }

    /** The segments that are there, by rising numbers; the open one is null if there is none. */
    private static final class Shelf {
        final ArrayList<Segment> row;
        private Segment open;
        private int next;

        Shelf() {
            row = new ArrayList<>();
            open = new Segment(0);
            row.add(open);
            next = 1;
        }

        /** Null if there is none. */
        Segment numbered(int number) {
            for (int i = 0; i < row.size(); i++) {
                if (row.get(i).number == number) {
                    return row.get(i);
                }
            }
            return null;
        }

        boolean isOpen(Segment segment) {
            return segment != null && segment == open;
        }

        boolean hasRoomFor(int finds) {
            int room = open == null ? 0 : SEGMENT_ROOM - open.finds.size();
            int rest = finds - room;
            int opened = rest <= 0 ? 0 : (rest + SEGMENT_ROOM - 1) / SEGMENT_ROOM;
            return row.size() + opened <= MOST_SEGMENTS;
        }

        void put(Find find) {
            Segment taker = open == null ? addNext() : open;
            taker.take(find);
            open = taker.finds.size() < SEGMENT_ROOM ? taker : null;
        }

        Segment unite(Segment one, Segment other, ArrayList<Find> log) {
            takeOff(one);
            takeOff(other);
            Segment united = addNext();
            for (int i = 0; i < log.size(); i++) {
                Find find = log.get(i);
                if (find.segment == one || find.segment == other) {
                    united.take(find);
                }
            }
            return united;
        }

        void lose(Segment segment) {
            takeOff(segment);
            for (int i = 0; i < segment.finds.size(); i++) {
                segment.finds.get(i).segment = null;
            }
        }

        int timesHeld(Find find) {
            int times = 0;
            for (int i = 0; i < row.size(); i++) {
                ArrayList<Find> finds = row.get(i).finds;
                for (int k = 0; k < finds.size(); k++) {
                    if (finds.get(k) == find) {
                        times++;
                    }
                }
            }
            return times;
        }

        void gatherUnstruck(ArrayList<Find> all) {
            all.clear();
            for (int i = 0; i < row.size(); i++) {
                ArrayList<Find> finds = row.get(i).finds;
                for (int k = 0; k < finds.size(); k++) {
                    if (!finds.get(k).struck) {
                        all.add(finds.get(k));
                    }
                }
            }
        }

        private Segment addNext() {
            Segment added = new Segment(next);
            next++;
            row.add(added);
            return added;
        }

        private void takeOff(Segment segment) {
            for (int i = 0; i < row.size(); i++) {
                if (row.get(i) == segment) {
                    row.remove(i);
                    return;
                }
            }
        }
    }

    /** A map: a row of words, each but the first one with a distance. */
    private static final class Phrase {
        private final int[] words;
        private final int[] distances;
        int length;

        Phrase() {
            words = new int[MOST_MAP_WORDS];
            distances = new int[MOST_MAP_WORDS];
        }

        boolean isEmpty() {
            return length == 0;
        }

        int wordAt(int index) {
            return index >= 0 && index < words.length ? words[index] : NONE;
        }

        int distanceAt(int index) {
            return index >= 0 && index < distances.length ? distances[index] : 0;
        }

        void append(int word, int distance) {
            if (length >= 0 && length < words.length && length < distances.length) {
                words[length] = word;
                distances[length] = distance;
                length++;
            }
        }

        void clear() {
            length = 0;
        }

        void copyFrom(Phrase other) {
            clear();
            for (int i = 0; i < other.length; i++) {
                append(other.wordAt(i), other.distanceAt(i));
            }
        }
    }

    /** A ship; its map is empty unless it came by one. */
    private static final class Ship {
        final Phrase map;
        Isle where;
        int purse;
        private Isle cameFrom;
        private boolean dug;

        Ship(Isle home) {
            map = new Phrase();
            where = home;
            cameFrom = home;
            purse = FIRST_COINS;
        }

        /** Pays as far as it has coins. */
        void pay(int price) {
            purse -= Math.min(price, purse);
        }

        void sailTo(Isle goal, Phrase by, int price) {
            pay(price);
            map.copyFrom(by);
            cameFrom = where;
            where = goal;
            dug = false;
        }

        int takeTreasure() {
            where.treasureThere = false;
            purse += where.treasure;
            dug = true;
            return where.treasure;
        }

        void goBack() {
            if (dug) {
                pay(where.treasure);
                where.treasureThere = true;
            }
            where = cameFrom;
            map.clear();
        }
    }
}
