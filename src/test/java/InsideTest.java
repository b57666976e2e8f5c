import java.lang.reflect.Field;
import java.lang.reflect.Method;
import java.util.List;

/**
 * The sentences that no run of calls can test, so that these tests reach inside the object. There are never 20
 * segments, as a closed one has at least 10 of at most 120 finds: here closed segments without finds are put on the
 * shelf. And isTrue never answers false: here what it checks is broken first.
 */
public final class InsideTest {
    private static final String ISLES = "island(0, 0, 10); island(3, 4, 20)\n";
    /** No segment is open. */
    private static final String NONE_OPEN = ISLES + "ship(); 10 times find(0, 0, 0); merge(8, 9)"
            + " = throws NoSuchElementException\n";
    /** The open segment has one place left. */
    private static final String ONE_LEFT = ISLES + "ship(); 19 times find(0, 0, 0); merge(8, 9)"
            + " = throws NoSuchElementException\n";
    private static final String ROW_STAYS = "\ncauses() = 2; cause(0) = s";

    public static void main(String[] args) throws Exception {
        promise03Find();
        promise05Plant();
        promise09Merge();
        promise11Rebuild();
        promise11Refused();
        promise35Finds();
        promise35Struck();
        promise35Coins();
        promise35Hits();
        Check.end("InsideTest");
    }

    private static Object inside(Object holder, String name) throws Exception {
        Field field = holder.getClass().getDeclaredField(name);
        field.setAccessible(true);
        return field.get(holder);
    }

    @SuppressWarnings("unchecked")
    private static List<Object> list(Object holder, String name) throws Exception {
        return (List<Object>) inside(holder, name);
    }

    /** Plays calls, then puts segments on the shelf until there are as many as wanted. */
    private static Script filled(String name, String calls, int segments) throws Exception {
        Script script = new Script(name).play(calls);
        Object shelf = inside(script.object(), "shelf");
        Method addNext = shelf.getClass().getDeclaredMethod("addNext");
        addNext.setAccessible(true);
        for (int have = script.object().segments(); have < segments; have++) {
            addNext.invoke(shelf);
        }
        return script.play("segments() = " + segments);
    }

    private static void promise03Find() throws Exception {
        filled("3 find: a find opens the 20th segment", NONE_OPEN, 19).play("find(0, 0, 0) = 10; segments() = 20");
        filled("3 find: another segment would be needed, and there are 20", NONE_OPEN, 20).play("""
            find(0, 0, 0) = throws IllegalStateException; segments() = 20; postings(0) = 10
            isStruck(10) = throws IndexOutOfBoundsException
            """ + ROW_STAYS);
        filled("3 find: there are 20, but no other one is needed", ONE_LEFT, 20).play("""
            find(0, 0, 0) = 19; find(0, 0, 0) = throws IllegalStateException; segments() = 20; postings(0) = 20
            """);
        filled("3 find: the island and the numbers come first", NONE_OPEN, 20).play("""
            find(31, 2, 0) = throws IndexOutOfBoundsException; find(31, 0, 0) = throws IllegalArgumentException
            find(0, 0, 41) = throws IllegalArgumentException
            """);
    }

    private static void promise05Plant() throws Exception {
        filled("5 plant: a false word opens the 20th segment", NONE_OPEN, 19).play("plant(0, 0, 0, 0) = 10");
        filled("5 plant: another segment would be needed, and there are 20", NONE_OPEN, 20).play("""
            plant(0, 0, 0, 0) = throws IllegalStateException; coins(0) = 100; segments() = 20; postings(0) = 10
            """ + ROW_STAYS);
        filled("5 plant: there are 20, but no other one is needed", ONE_LEFT, 20).play("""
            plant(0, 0, 0, 0) = 19; plant(0, 0, 0, 0) = throws IllegalStateException; coins(0) = 95
            """);
        filled("5 plant: too few coins come first", ISLES + "ship(); 20 times plant(0, 0, 0, 0)", 20).play("""
            plant(0, 0, 0, 0) = throws UnsupportedOperationException
            plant(0, 31, 0, 0) = throws IllegalArgumentException; plant(0, 0, 2, 0) = throws IndexOutOfBoundsException
            """);
    }

    private static void promise09Merge() throws Exception {
        filled("9 merge: two of 20 become one", NONE_OPEN, 20)
                .play("merge(0, 1) = 20; segments() = 19; find(0, 0, 0) = 10");
    }

    private static void promise11Rebuild() throws Exception {
        filled("11 rebuild: 10 finds open the 20th", NONE_OPEN + "storm(0)", 19)
                .play("rebuild() = 10; segments() = 20");
        filled("11 rebuild: 20 finds open the 19th and the 20th", ONE_LEFT + "find(0, 0, 0); storm(0); storm(1)", 18)
                .play("rebuild() = 20; segments() = 20; segmentOf(19) = 21");
        filled("11 rebuild: what fits into the open one of 20", ISLES + """
            10 times find(0, 0, 0); find(1, 0, 0); strike(0); storm(0)
            """, 20).play("rebuild() = 9; segments() = 20; size(1) = 10");
        filled("11 rebuild: nothing, with 20 and none open", NONE_OPEN, 20).play("rebuild() = 0" + ROW_STAYS);
    }

    private static void promise11Refused() throws Exception {
        String none = "rebuild() = throws IllegalStateException; causes() = 1; cause(0) = f\n"
                + "cause(1) = throws NoSuchElementException; segmentOf(0) = throws NoSuchElementException\n";
        filled("11 rebuild: the 21st would be there", NONE_OPEN + "storm(0)", 20)
                .play(none + "segments() = 20; postings(0) = 0");
        filled("11 rebuild: of two the second one would be the 21st", ONE_LEFT
                + "find(0, 0, 0); storm(0); storm(1)", 19)
                .play(none + "segments() = 19; postings(0) = 0; segmentOf(10) = throws NoSuchElementException");
        filled("11 rebuild: one find more than places in the open one of 20", ISLES + """
            10 times find(0, 0, 0); find(1, 0, 0); storm(0); merge(8, 9) = throws NoSuchElementException
            """, 20).play(none + "segments() = 20; postings(0) = 0; size(1) = 1; storm(2) = 10");
    }

    /** Twelve finds in segments 0 and 1; the first and the last one are tried. */
    private static void promise35Finds() throws Exception {
        for (int find : new int[] {0, 11}) {
            for (int segment = 0; segment < 2; segment++) {
                Script script = new Script("35 isTrue: find " + find + " once more in segment " + segment)
                        .play(ISLES + "12 times find(0, 0, 0); isTrue() = true");
                List<Object> row = list(inside(script.object(), "shelf"), "row");
                list(row.get(segment), "finds").add(list(script.object(), "log").get(find));
                script.play("isTrue() = false");
            }
        }
    }

    /** Of twelve finds the struck one is put back among the postings, first and last; no map is typed. */
    private static void promise35Struck() throws Exception {
        for (int find : new int[] {0, 11}) {
            Script script = new Script("35 isTrue: struck find " + find + " is a posting")
                    .play(ISLES + "12 times find(0, 0, 0); strike(" + find + "); postings(0) = 11; isTrue() = true");
            List<Object> row = list(inside(script.object(), "index"), "row");
            row.add(find == 0 ? 0 : row.size(), list(script.object(), "log").get(find));
            script.play("postings(0) = 12; isTrue() = false");
        }
    }

    private static void promise35Coins() throws Exception {
        for (int ship : new int[] {0, 4}) {
            Script script = new Script("35 isTrue: ship " + ship + " has -1 coins").play(ISLES + "5 times ship()");
            Object found = list(script.object(), "fleet").get(ship);
            Field purse = found.getClass().getDeclaredField("purse");
            purse.setAccessible(true);
            purse.setInt(found, 0);
            script.play("isTrue() = true");
            purse.setInt(found, -1);
            script.play("isTrue() = false");
        }
    }

    /** The index has a posting fewer or more than the segments have, so that there is another number of choices. */
    private static void promise35Hits() throws Exception {
        for (int island = 0; island < 2; island++) {
            Script script = new Script("35 isTrue: the index has a posting on island " + island + " fewer")
                    .play(ISLES + "find(0, 0, 0); 9 times find(0, " + island + ", 3); find(0, 1, 0); word(0, 0)");
            script.play("isTrue() = true");
            List<Object> row = list(inside(script.object(), "index"), "row");
            row.remove(island == 0 ? 0 : row.size() - 1);
            script.play("isTrue() = false");
        }
        Script script = new Script("35 isTrue: the index has a find that is in no segment")
                .play(ISLES + "10 times find(0, 0, 0); storm(0); word(0, 0); isTrue() = true");
        list(inside(script.object(), "index"), "row").add(list(script.object(), "log").get(9));
        script.play("hits() = 1; isTrue() = false");
    }
}
