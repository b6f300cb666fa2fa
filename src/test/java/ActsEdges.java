import java.util.Map;
import java.util.Set;
import java.util.TreeSet;
import java.util.function.Consumer;

/** What a call changes, and that it changes nothing else of what is told. */
final class ActsEdges extends Calls {
    private ActsEdges() {
    }

    /** Behind what was ahead the call changes this, as in "count(0): 6 -> 7", and nothing else. */
    private static void changes(String name, Consumer<ChairCredits> ahead, Consumer<ChairCredits> call, String... due) {
        ChairCredits heard = new ChairCredits();
        ahead.accept(heard);
        call.accept(heard);
        ChairCredits spared = new ChairCredits();
        ahead.accept(spared);
        Set<String> changes = changes(toldWithSizes(spared), toldWithSizes(heard));
        Check.holds(name + " changes " + changes, changes.equals(Set.of(due)));
    }

    private static Map<String, Integer> toldWithSizes(ChairCredits x) {
        Map<String, Integer> all = told(x);
        all.put("count(11)", x.count(11));
        all.put("count(12)", x.count(12));
        return all;
    }

    private static Set<String> changes(Map<String, Integer> before, Map<String, Integer> behind) {
        Set<String> calls = new TreeSet<>(before.keySet());
        calls.addAll(behind.keySet());
        Set<String> changes = new TreeSet<>();
        for (String call : calls) {
            int was = before.getOrDefault(call, NONE);
            int is = behind.getOrDefault(call, NONE);
            if (was != is) {
                changes.add(call + ": " + was + " -> " + is);
            }
        }
        return changes;
    }

    private static void changesCrowded(String name, Consumer<ChairCredits> call, String... due) {
        changes(name, Calls::crowded, call, due);
    }

    // ---- settings

    static void setLaneChanges() {
        edge("Promise 2: setLane", "Sets a number of a lane.");
        changesCrowded("more chairs", x -> x.setLane(1, 0, 5), "lane(1, 0): 3 -> 5", "lane(1, 3): 100 -> 102");
        changesCrowded("fewer chairs", x -> x.setLane(1, 0, 1), "lane(1, 0): 3 -> 1", "lane(1, 3): 100 -> 98");
        changesCrowded("the period", x -> x.setLane(1, 1, 4), "lane(1, 1): 1 -> 4");
        changesCrowded("the delay", x -> x.setLane(1, 2, 1), "lane(1, 2): 6 -> 1");
    }

    static void setChanges() {
        edge("Promise 3: set", "Sets the mode, or the watch.");
        changesCrowded("the mode", x -> x.set(0, 0), "count(8): 1 -> 0");
        changesCrowded("the watch", x -> x.set(1, 60), "count(9): 13 -> 60");
        changesCrowded("no watch", x -> x.set(1, 0), "count(9): 13 -> 0");
    }

    // ---- packets

    static void arriveChanges() {
        edge("Promise 4: arrive", "Lets a packet arrive.");
        changesCrowded("arrive(3, 2)", x -> x.arrive(3, 2), "input(3, 0): 2 -> 3", "packet(3, 2, 0): -5 -> 21",
            "packet(3, 2, 1): -5 -> 2", "packet(3, 2, 2): -5 -> 6", "lane(2, 12): 3 -> 4", "count(1): 21 -> 22",
            "count(2): 10 -> 11");
    }

    static void readArrivalsChanges() {
        edge("Promise 5: readArrivals", "Lets the arrivals of the text, which stays, arrive");
        changesCrowded("0>3,3>0", x -> x.readArrivals(), "input(0, 0): 4 -> 5", "packet(0, 4, 0): -5 -> 21",
            "packet(0, 4, 1): -5 -> 3", "packet(0, 4, 2): -5 -> 6", "input(3, 0): 2 -> 3", "packet(3, 2, 0): -5 -> 22",
            "packet(3, 2, 1): -5 -> 0", "packet(3, 2, 2): -5 -> 6", "lane(3, 12): 0 -> 1", "lane(0, 12): 0 -> 1",
            "count(1): 21 -> 23", "count(2): 10 -> 12");
    }

    /** The input 2 sends a packet to the output 1, which seats it and lets it be taken at once. */
    static void passChanges() {
        edge("Promise 6: pass", "Lets ticks pass.");
        changes("a tick", x -> {
            crowded(x);
            x.forge(1);
        }, x -> x.pass(1), "count(0): 6 -> 7",
            "lane(1, 3): 101 -> 100", "lane(1, 7): 1 -> 3", "lane(1, 8): 3 -> 4", "lane(1, 12): 7 -> 6",
            "input(2, 0): 2 -> 1", "input(2, 2): 4 -> 5", "packet(2, 0, 0): 12 -> 13",
            "packet(2, 1, 0): 13 -> -5", "packet(2, 1, 1): 1 -> -5", "packet(2, 1, 2): 0 -> -5",
            "lane(1, 9): 3 -> 4", "lane(1, 5): 2 -> 3", "onTheWay(1, 2): -5 -> 6",
            "onTheWay(0, 0): 2 -> 1", "onTheWay(1, 0): 2 -> 1", "onTheWay(1, 1): 3 -> 2", "onTheWay(2, 0): 2 -> 1",
            "onTheWay(3, 0): 2 -> 1",
            "input(0, 1): 4 -> 5", "input(1, 1): 3 -> 4", "input(3, 1): 4 -> 5", "count(7): 13 -> 16",
            "count(2): 10 -> 9", "count(3): 11 -> 12", "count(4): 10 -> 11");
    }

    /** The input 2 sends a packet to the output 3, which has no chair for it. */
    static void spillingChanges() {
        edge("A TICK", "otherwise it is spilled (it is gone).");
        changes("a spilled one", x -> {
            lay(x, 3, 1, 9, 6);
            x.forge(3);
            read(x, "2>3,0>3");
            x.pass(1);
        }, x -> x.pass(1), "count(0): 1 -> 2",
            "lane(3, 3): 101 -> 100", "lane(3, 6): 99 -> 100", "lane(3, 7): 1 -> 3", "lane(3, 8): 1 -> 2",
            "lane(3, 10): 0 -> 1", "lane(3, 12): 1 -> 0",
            "input(2, 0): 1 -> 0", "input(2, 2): 0 -> 1", "input(2, 3): 3 -> -5",
            "packet(2, 0, 0): 0 -> -5", "packet(2, 0, 1): 3 -> -5", "packet(2, 0, 2): 0 -> -5",
            "count(2): 1 -> 0", "count(3): 1 -> 2", "count(5): 0 -> 1");
    }

    static void aWatchChanges() {
        edge("A TICK", "each lane is repaired.");
        changes("a watch in a tick", x -> {
            crowded(x);
            x.set(1, 6);
            x.setLane(3, 0, 2);
        }, x -> x.pass(1), "count(0): 6 -> 7",
            "lane(1, 6): 101 -> 100", "lane(3, 3): 102 -> 101", "lane(3, 6): 99 -> 100",
            "lane(1, 7): 1 -> 3", "lane(1, 8): 3 -> 4", "lane(1, 12): 7 -> 6",
            "input(2, 0): 2 -> 1", "input(2, 2): 4 -> 5", "packet(2, 0, 0): 12 -> 13",
            "packet(2, 1, 0): 13 -> -5", "packet(2, 1, 1): 1 -> -5", "packet(2, 1, 2): 0 -> -5",
            "lane(1, 9): 3 -> 4", "lane(1, 5): 2 -> 3", "onTheWay(1, 2): -5 -> 6",
            "onTheWay(0, 0): 2 -> 1", "onTheWay(1, 0): 2 -> 1", "onTheWay(1, 1): 3 -> 2", "onTheWay(2, 0): 2 -> 1",
            "onTheWay(3, 0): 2 -> 1",
            "input(0, 1): 4 -> 5", "input(1, 1): 3 -> 4", "input(3, 1): 4 -> 5", "count(7): 13 -> 16",
            "count(2): 10 -> 9", "count(3): 11 -> 12", "count(4): 10 -> 11");
    }

    // ---- credits

    static void loseChanges() {
        edge("Promise 7: lose", "Loses the credit on its way back that would come first.");
        changesCrowded("lose(1)", x -> x.lose(1), "lane(1, 5): 2 -> 1", "lane(1, 6): 101 -> 102", "lane(1, 11): 1 -> 2",
            "onTheWay(1, 0): 2 -> 3", "onTheWay(1, 1): 3 -> -5");
    }

    static void forgeChanges() {
        edge("Promise 8: forge", "Forges a credit: its credits become more by 1.");
        changesCrowded("forge(1)", x -> x.forge(1), "lane(1, 3): 100 -> 101", "lane(1, 6): 101 -> 100");
    }

    static void repairChanges() {
        edge("Promise 9: repair", "Repairs a lane.");
        changesCrowded("of one missing", x -> x.repair(1), "lane(1, 3): 100 -> 101", "lane(1, 6): 101 -> 100");
        changesCrowded("of one too many", x -> x.repair(3), "lane(3, 3): 103 -> 102", "lane(3, 6): 99 -> 100");
    }

    // ---- texts and history

    static void textChanges() {
        edge("Promise 10: type", "Types a character behind the text.");
        changesCrowded("type('x')", x -> x.type('x'), "count(12): 7 -> 8");
        edge("Promise 11: clearText", "Empties the text.");
        changesCrowded("clearText()", x -> x.clearText(), "count(12): 7 -> 0");
    }

    static void historyChanges() {
        edge("Promise 12: undo", "Removes and restores the latest state of the history.");
        changesCrowded("undo()", x -> x.undo(), "count(9): 13 -> 0", "count(11): 4 -> 3");
        edge("Promise 13: keep", "Takes a snapshot of the state, in place of the one that was.");
        changesCrowded("keep()", x -> x.keep());
        edge("Promise 14: restore", "Restores the state of the snapshot, which stays.");
        changes("restore()", x -> {
            crowded(x);
            x.keep();
            x.arrive(1, 3);
        }, x -> x.restore(), "input(1, 0): 3 -> 2", "packet(1, 2, 0): 21 -> -5", "packet(1, 2, 1): 3 -> -5",
            "packet(1, 2, 2): 6 -> -5", "lane(3, 12): 1 -> 0", "count(1): 22 -> 21", "count(2): 11 -> 10");
    }
}
