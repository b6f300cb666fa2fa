/** The edges of the history and of the snapshot. */
final class HistoryEdges extends Calls {
    private static final String HISTORY = "HISTORY";
    private static final String UNDO = "Promise 12: undo";
    private static final String KEEP = "Promise 13: keep";
    private static final String RESTORE = "Promise 14: restore";

    private HistoryEdges() {
    }

    // ---- history

    static void atMost4() {
        ChairCredits x = edge(HISTORY, "A history of at most 4 states is kept;");
        for (int acts = 1; acts <= 7; acts++) {
            x.forge(0);
            due("states behind " + acts + " acts", x.count(11), Math.min(acts, 4));
        }
    }

    static void theOldestIsDropped() {
        ChairCredits x = edge(HISTORY, "when one more is recorded, the oldest one is dropped;");
        for (int i = 0; i < 4; i++) {
            x.arrive(0, 0);
        }
        undo(x, 4);
        due("four acts are undone", x.count(1), 0);
        for (int i = 0; i < 5; i++) {
            x.arrive(0, 0);
        }
        undo(x, 4);
        due("four of five acts are undone", x.count(1), 1);
        due("no more", x.undo(), NONE);
        due("the first one stays", x.count(1), 1);
    }

    static void itsPlacesAreUsedAgain() {
        ChairCredits x = edge(HISTORY, "the oldest one is dropped");
        for (int i = 0; i < 6; i++) {
            x.forge(0);
        }
        undo(x, 2);
        for (int i = 0; i < 3; i++) {
            x.forge(1);
        }
        due("credits at 0", credits(x, 0), 7);
        due("credits at 1", credits(x, 1), 6);
        for (int left = 3; left >= 0; left--) {
            due("undo", x.undo(), left);
        }
        due("credits at 0", credits(x, 0), 6);
        due("credits at 1", credits(x, 1), 3);
        due("undo", x.undo(), NONE);
    }

    static void theLatestFirst() {
        ChairCredits x = edge(HISTORY, "undo() removes and restores the latest one.");
        for (int i = 0; i < 4; i++) {
            x.forge(i);
        }
        for (int output = 3; output >= 0; output--) {
            x.undo();
            due("its lane", credits(x, output), 3);
            due("the lane ahead of it", output == 0 ? 4 : credits(x, output - 1), 4);
        }
    }

    static void actsThatAnswer0AreRecorded() {
        ChairCredits x = edge(HISTORY,
            "Each call of a method that is described as an act, and returns no error and not NONE, records the state");
        due("arrive", x.arrive(0, 0), 0);
        due("states", x.count(11), 1);
        due("set", x.set(0, 1), 0);
        due("states", x.count(11), 2);
        x.keep();
        due("restore", x.restore(), 0);
        due("states", x.count(11), 3);
        x = new ChairCredits();
        due("pass", x.pass(50), 0);
        due("states", x.count(11), 1);
        x = new ChairCredits();
        x.setLane(0, 1, 1);
        x.arrive(0, 0);
        x.pass(1);
        due("lose", x.lose(0), 0);
        due("states", x.count(11), 4);
    }

    static void othersAreNotRecorded() {
        ChairCredits x = edge(HISTORY, "and returns no error and not NONE");
        due("an error", x.arrive(4, 0), UNKNOWN);
        due("NONE", x.repair(0), NONE);
        due("a fault", x.readArrivals(), -100);
        x.type('0');
        x.clearText();
        x.keep();
        state(x);
        x.next(0);
        x.wouldSend(50, 1);
        due("states", x.count(11), 0);
        due("undo", x.undo(), NONE);
    }

    static void theStateBeforeIt() {
        edge(HISTORY, "records the state that was before it.");
        ChairCredits x = new ChairCredits();
        busy(x);
        String before = state(x);
        x.pass(50);
        x.undo();
        Check.holds("all as it was ahead of pass()", before.equals(state(x)));
    }

    static void oneSnapshot() {
        ChairCredits x = edge(HISTORY, "There is one snapshot, empty at first.");
        due("empty", x.restore(), NONE);
        x.keep();
        x.pass(1);
        due("the first", x.restore(), 0);
        x.pass(3);
        x.keep();
        x.pass(5);
        due("the second in its place", x.restore(), 3);
        due("and again", x.restore(), 3);
    }

    static void undoLeavesTheText() {
        ChairCredits x = edge(HISTORY, "A state is everything but the text");
        x.arrive(0, 0);
        type(x, "0>0*2");
        x.keep();
        x.undo();
        due("behind undo()", x.count(12), 5);
        x.type(',');
        x.restore();
        due("behind restore()", x.count(12), 6);
    }

    static void undoLeavesTheSnapshot() {
        ChairCredits x = edge(HISTORY, "the history and the snapshot.");
        x.pass(7);
        x.keep();
        x.undo();
        due("tick", x.count(0), 0);
        due("the snapshot is of the tick 7 yet", x.restore(), 7);
        x.undo();
        due("tick", x.count(0), 0);
        due("and yet", x.restore(), 7);
    }

    static void restoreLeavesTheHistory() {
        ChairCredits x = edge(HISTORY, "A state is everything but the text, the history");
        x.forge(0);
        x.keep();
        x.forge(1);
        x.restore();
        due("states", x.count(11), 3);
        x.undo();
        due("the act behind keep() is there", credits(x, 1), 4);
        undo(x, 2);
        due("the act ahead of it is undone", credits(x, 0), 3);
    }

    static void everythingElseIsTheState() {
        ChairCredits x = edge(HISTORY, "A state is everything but");
        inUse(x);
        x.keep();
        changeAll(x);
        eachNumberHasChanged(x);
        String changed = state(x);
        x.restore();
        ChairCredits same = new ChairCredits();
        inUse(same);
        Check.holds("restore() brings all of it back", state(x).equals(state(same)));
        x.undo();
        Check.holds("undo() brings all of it back", state(x).equals(changed));
    }

    /** A seated packet, a spilled one, a credit on its way, and packets that wait and are blocked. */
    private static void inUse(ChairCredits x) {
        lay(x, 0, 2, 3, 6);
        read(x, "0>0*4,1>0*2,2>1");
        x.forge(0);
        x.pass(3);
    }

    private static void changeAll(ChairCredits x) {
        forge(x, 0, 3);
        x.pass(2);
        x.setLane(0, 0, 4);
        x.setLane(0, 1, 1);
        x.setLane(0, 2, 4);
        arrive(x, 3, 0, 2);
        x.pass(3);
        x.lose(0);
        x.setLane(0, 0, 5);
        x.set(0, 1);
        x.set(1, 7);
        read(x, "2>3*3,0>2");
    }

    private static void eachNumberHasChanged(ChairCredits x) {
        ChairCredits before = new ChairCredits();
        inUse(before);
        for (int what = 0; what <= 12; what++) {
            Check.holds("lane(0, " + what + ") changes", x.lane(0, what) != before.lane(0, what));
        }
        for (int what = 0; what <= 3; what++) {
            Check.holds("input(0, " + what + ") changes", x.input(0, what) != before.input(0, what));
        }
        for (int what = 0; what <= 2; what++) {
            Check.holds("packet(0, 0, " + what + ") changes", x.packet(0, 0, what) != before.packet(0, 0, what));
        }
        for (int what = 0; what <= 9; what++) {
            Check.holds("count(" + what + ") changes", x.count(what) != before.count(what));
        }
        Check.holds("seated(0, 0) changes", x.seated(0, 0) != before.seated(0, 0));
        Check.holds("onTheWay(0, 0) changes", x.onTheWay(0, 0) != before.onTheWay(0, 0));
    }

    // ---- undo

    static void undoRemovesAndRestores() {
        ChairCredits x = edge(UNDO, "Removes and restores the latest state of the history.");
        x.forge(0);
        x.forge(0);
        x.undo();
        due("credits", credits(x, 0), 4);
        due("states", x.count(11), 1);
        x.undo();
        due("credits", credits(x, 0), 3);
        due("states", x.count(11), 0);
    }

    static void undoIsNoAct() {
        ChairCredits x = edge(UNDO, "`int undo()`: Removes");
        x.forge(0);
        x.undo();
        due("undo can't be undone", x.undo(), NONE);
        due("credits", credits(x, 0), 3);
    }

    static void undoAnswersHowManyAreLeft() {
        ChairCredits x = edge(UNDO, "Returns the number of states that are left;");
        forge(x, 0, 5);
        for (int left = 3; left >= 0; left--) {
            due("undo", x.undo(), left);
        }
    }

    static void undoWithoutHistory() {
        edge(UNDO, "NONE if the history is empty.");
        refused("of a new one", x -> { }, ChairCredits::undo, NONE);
        refused("all undone", x -> {
            crowded(x);
            undo(x, 4);
        }, ChairCredits::undo, NONE);
        refused("undone, with a text and a snapshot", x -> {
            x.pass(1);
            x.keep();
            x.undo();
            type(x, "0>0");
        }, ChairCredits::undo, NONE);
    }

    // ---- keep and restore

    static void keepTakesThePlaceOfTheOneThatWas() {
        ChairCredits x = edge(KEEP, "Takes a snapshot of the state, in place of the one that was.");
        x.forge(0);
        x.keep();
        x.forge(0);
        x.keep();
        x.forge(0);
        x.restore();
        due("credits", credits(x, 0), 5);
        busy(x);
        String before = state(x);
        x.keep();
        x.pass(50);
        x.restore();
        Check.holds("all as it was kept", before.equals(state(x)));
    }

    static void keepIsNoAct() {
        ChairCredits x = edge(KEEP, "`int keep()`");
        x.keep();
        due("states", x.count(11), 0);
        due("undo", x.undo(), NONE);
    }

    static void keepAnswersTheTick() {
        ChairCredits x = edge(KEEP, "Returns the tick.");
        due("0", x.keep(), 0);
        x.pass(1);
        due("1", x.keep(), 1);
        x.undo();
        due("0 again", x.keep(), 0);
        x = new ChairCredits();
        passToTheEnd(x);
        due("9999", x.keep(), 9999);
    }

    static void theSnapshotStays() {
        ChairCredits x = edge(RESTORE, "Restores the state of the snapshot, which stays.");
        busy(x);
        String before = state(x);
        x.keep();
        for (int i = 0; i < 2; i++) {
            x.pass(10 + i);
            x.restore();
            due("tick", x.count(0), 5);
        }
        x.pass(3);
        x.forge(0);
        x.restore();
        Check.holds("all as it was kept", before.equals(state(x)));
    }

    static void restoreIsAnAct() {
        edge(RESTORE, "This is an act.");
        isAct("restore()", x -> {
            x.keep();
            x.pass(9);
        }, ChairCredits::restore);
        isAct("restore() of the same state", ChairCredits::keep, ChairCredits::restore);
        isAct("restore() in a busy one", x -> {
            x.keep();
            busy(x);
        }, ChairCredits::restore);
    }

    static void restoreAnswersTheTickThen() {
        ChairCredits x = edge(RESTORE, "Returns the tick then;");
        x.keep();
        x.pass(50);
        due("0", x.restore(), 0);
        x.pass(2);
        x.keep();
        x.undo();
        due("2, which is behind the tick 0", x.restore(), 2);
        x = new ChairCredits();
        passToTheEnd(x);
        x.keep();
        x.undo();
        due("9999", x.restore(), 9999);
        due("as it is", x.pass(1), NOT_POSSIBLE);
    }

    static void restoreWithoutASnapshot() {
        edge(RESTORE, "NONE if there is no snapshot.");
        refused("of a new one", x -> { }, ChairCredits::restore, NONE);
        refused("of a busy one", Calls::busy, ChairCredits::restore, NONE);
    }
}
