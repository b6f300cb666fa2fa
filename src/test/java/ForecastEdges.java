import java.util.function.Consumer;

/** The edges of next(), leavesIn() and wouldSend(). */
final class ForecastEdges extends Calls {
    private static final String NEXT = "Promise 20: next";
    private static final String LEAVES_IN = "Promise 21: leavesIn";
    private static final String WOULD_SEND = "Promise 22: wouldSend";

    private ForecastEdges() {
    }

    /** A forecast changes nothing, whatever it answers. */
    private static void changesNothing(String name, Consumer<ChairCredits> forecast) {
        refused(name, x -> {
            forecast.accept(x);
            return 0;
        }, 0);
    }

    // ---- next

    static void nextTellsThePacketOfTheNextTick() {
        ChairCredits x = edge(NEXT, "Tells which packet would be sent to an output in the next tick.");
        x.set(0, 1);
        read(x, "3>2,3>1,0>2");
        due("the output 1 is ahead", x.next(1), 1);
        due("3 sends no second one", x.next(2), 2);
        due("next changes nothing", x.next(1), 1);
        for (int output = 0; output < 4; output++) {
            int asked = output;
            changesNothing("next(" + output + ")", y -> y.next(asked));
        }
    }

    static void nextWithWhatComesInThatTick() {
        ChairCredits x = edge(NEXT, "would be sent to an output in the next tick");
        lay(x, 2, 1, 1, 2);
        read(x, "0>2*2");
        x.pass(1);
        due("its credit comes in the tick behind", x.next(2), NONE);
        x.pass(1);
        due("it comes in that tick", x.next(2), 1);
        x.lose(2);
        due("it is lost", x.next(2), NONE);
        x.set(1, 2);
        due("a watch in that tick", x.next(2), 1);
        x.set(1, 3);
        due("a watch in another", x.next(2), NONE);
        x.set(1, 2);
        x.forge(2);
        x.forge(2);
        due("a watch that leaves one", x.next(2), 1);
    }

    static void nextTellsOneThatWouldBeSpilled() {
        ChairCredits x = edge(NEXT, "Tells which packet would be sent");
        lay(x, 2, 1, 9, 6);
        x.forge(2);
        read(x, "1>2*2");
        x.pass(1);
        due("no chair is free", x.next(2), 1);
        x.pass(1);
        due("it was spilled", x.lane(2, 10), 1);
    }

    static void nextInTheLastTick() {
        ChairCredits x = edge(NEXT, "in the next tick.");
        passToTheEnd(x);
        x.arrive(1, 3);
        due("in the tick 9999", x.next(3), 0);
    }

    static void nextOutputs() {
        ChairCredits x = edge(NEXT, "`output`: 0 to 3");
        read(x, "0>0,1>3");
        due("0", x.next(0), 0);
        due("3", x.next(3), 1);
    }

    static void nextTellsTheNumber() {
        ChairCredits x = edge(NEXT, "Returns the number of the packet;");
        read(x, "3>3*8,2>3");
        due("behind the turn", x.next(3), 8);
        x.pass(1);
        due("the other one", x.next(3), 0);
        x.pass(1);
        due("the one behind it", x.next(3), 1);
    }

    static void nextUnknown() {
        edge(NEXT, "UNKNOWN;");
        for (int output : NO_PORT) {
            refused("next(" + output + ")", x -> x.next(output), UNKNOWN);
        }
    }

    static void nextNone() {
        edge(NEXT, "NONE if none would be.");
        refused("no packet", x -> { }, x -> x.next(0), NONE);
        refused("for another output", x -> read(x, "0>1"), x -> x.next(0), NONE);
        refused("behind a head", x -> read(x, "0>1,0>0"), x -> x.next(0), NONE);
        refused("without a credit", x -> {
            dry(x, 0);
            x.arrive(0, 0);
        }, x -> x.next(0), NONE);
        refused("with its only input sending to another", x -> {
            x.set(0, 1);
            read(x, "0>1,0>0");
        }, x -> x.next(1), NONE);
    }

    // ---- leavesIn

    /** With 24 packets behind one another each 9 ticks: the 23rd leaves in the 205th from the tick 0 on. */
    private static ChairCredits slow(int passed) {
        ChairCredits x = new ChairCredits();
        lay(x, 0, 1, 9, 6);
        for (int i = 0; i < passed; i++) {
            x.pass(1);
        }
        read(x, "0>0*8,1>0*8,2>0*8");
        return x;
    }

    static void ifNothingElseArrives() {
        ChairCredits x = edge(LEAVES_IN, "Tells in how many ticks a packet leaves its queue, if nothing else arrives");
        read(x, "0>0*4,1>0");
        int[] ticks = {1, 3, 4, 6};
        for (int place = 0; place < 4; place++) {
            due("place " + place, x.leavesIn(0, place), ticks[place]);
        }
        due("at the input 1", x.leavesIn(1, 0), 2);
        x.arrive(2, 0);
        due("behind another arrival", x.leavesIn(0, 1), 4);
        changesNothing("leavesIn(1, 0)", y -> y.leavesIn(1, 0));
    }

    static void leavesInWhateverTheTickIs() {
        ChairCredits x = edge(LEAVES_IN, "(whatever the tick is, as in wouldSend())");
        dry(x, 1);
        x.arrive(3, 1);
        passToTheEndBehindOne(x);
        due("stuck", x.leavesIn(3, 0), NONE);
        x.set(1, 60);
        due("a watch in the tick 10020", x.leavesIn(3, 0), 22);
        x.arrive(0, 0);
        due("in the tick 9999", x.leavesIn(0, 0), 1);
        read(x, "0>0*5");
        due("in the tick 10005", x.leavesIn(0, 5), 7);
    }

    /** To the tick 9999, from the tick 1. */
    private static void passToTheEndBehindOne(ChairCredits x) {
        for (int i = 0; i < 199; i++) {
            x.pass(50);
        }
        x.pass(48);
    }

    static void leavesInInputs() {
        ChairCredits x = edge(LEAVES_IN, "`input`: 0 to 3");
        read(x, "0>0,3>3");
        due("0", x.leavesIn(0, 0), 1);
        due("3", x.leavesIn(3, 0), 1);
    }

    static void leavesInPlaces() {
        ChairCredits x = edge(LEAVES_IN, "`place`: a place in its queue");
        lay(x, 0, 8, 1, 1);
        read(x, "2>0*8");
        for (int place = 0; place < 8; place++) {
            due("place " + place, x.leavesIn(2, place), place + 1);
        }
        x.set(0, 1);
        x.arrive(1, 0);
        x.arrive(1, 3);
        due("a later place that leaves first", x.leavesIn(1, 1), 2);
        due("the place ahead of it", x.leavesIn(1, 0), 1);
    }

    static void oneForTheNextTick() {
        ChairCredits x = edge(LEAVES_IN, "Returns the ticks, 1 for the next one that passes");
        read(x, "1>1");
        due("1", x.leavesIn(1, 0), 1);
        x.undo();
        read(x, "0>1,1>1");
        due("2", x.leavesIn(1, 0), 2);
        x.pass(1);
        due("1", x.leavesIn(1, 0), 1);
    }

    static void upTo200() {
        edge(LEAVES_IN, "up to 200;");
        due("199", slow(5).leavesIn(1, 7), 199);
        due("200", slow(4).leavesIn(1, 7), 200);
        due("201", slow(3).leavesIn(1, 7), NONE);
        due("205", slow(0).leavesIn(1, 7), NONE);
    }

    static void leavesInUnknown() {
        edge(LEAVES_IN, "UNKNOWN;");
        for (int input : NO_PORT) {
            refused("leavesIn(" + input + ", 0)", x -> x.leavesIn(input, 0), UNKNOWN);
        }
    }

    static void noPacketAtThisPlace() {
        edge(LEAVES_IN, "BAD_VALUE if there is no packet at this place;");
        refused("place 0 of none", x -> { }, x -> x.leavesIn(0, 0), BAD_VALUE);
        for (int place : new int[] {-1, 2, 7, 8, LEAST, MOST}) {
            refused("place " + place + " of two", x -> read(x, "0>0*2"), x -> x.leavesIn(0, place), BAD_VALUE);
        }
        for (int place : new int[] {-1, 8, LEAST, MOST}) {
            refused("place " + place + " of eight", x -> read(x, "0>0*8"), x -> x.leavesIn(0, place), BAD_VALUE);
        }
    }

    static void noneIfItDoesNotLeave() {
        edge(LEAVES_IN, "NONE if it does not.");
        Consumer<ChairCredits> blocked = x -> {
            dry(x, 0);
            read(x, "0>0,0>1");
        };
        refused("stuck", blocked, x -> x.leavesIn(0, 0), NONE);
        refused("behind one that is", blocked, x -> x.leavesIn(0, 1), NONE);
        ChairCredits x = new ChairCredits();
        blocked.accept(x);
        x.set(0, 1);
        due("not behind it in the mode 1", x.leavesIn(0, 1), 1);
        due("stuck in the mode 1", x.leavesIn(0, 0), NONE);
    }

    // ---- wouldSend

    static void someTicksWithAMode() {
        ChairCredits x = edge(WOULD_SEND, "Tells how many packets would be sent in some ticks with a mode.");
        dry(x, 0);
        read(x, "0>0,0>1*2,2>3");
        for (int mode = 0; mode <= 1; mode++) {
            x.set(0, mode);
            due("the box's mode", x.count(8), mode);
            due("with the mode 0", x.wouldSend(3, 0), 1);
            due("with the mode 1", x.wouldSend(3, 1), 3);
            due("the mode stays", x.count(8), mode);
        }
        changesNothing("wouldSend(50, 0)", y -> y.wouldSend(50, 0));
        changesNothing("wouldSend(50, 1)", y -> y.wouldSend(50, 1));
    }

    static void wouldSendFrom1To50() {
        ChairCredits x = edge(WOULD_SEND, "`ticks`: 1 to 50");
        lay(x, 0, 1, 1, 6);
        read(x, "0>0*8,1>0*8");
        due("1", x.wouldSend(1, 0), 1);
        due("6", x.wouldSend(6, 0), 1);
        due("7", x.wouldSend(7, 0), 2);
        due("48", x.wouldSend(48, 0), 8);
        due("49", x.wouldSend(49, 0), 9);
        due("50", x.wouldSend(50, 0), 9);
    }

    static void wouldSendModes() {
        ChairCredits x = edge(WOULD_SEND, "`mode`: 0 or 1");
        dry(x, 0);
        read(x, "0>0,0>1");
        due("0", x.wouldSend(1, 0), 0);
        due("1", x.wouldSend(1, 1), 1);
    }

    static void wouldSendAnswersHowMany() {
        ChairCredits x = edge(WOULD_SEND, "Returns how many;");
        due("none", x.wouldSend(50, 0), 0);
        read(x, "0>0*8,1>1*8,2>2*8,3>3*8");
        due("four in a tick", x.wouldSend(1, 0), 4);
        due("all of them", x.wouldSend(50, 1), 32);
        due("as pass() does", x.pass(50), 32);
        x = new ChairCredits();
        passToTheEnd(x);
        read(x, "0>0*6");
        due("whatever the tick is", x.wouldSend(50, 0), 6);
    }

    static void wouldSendBadValue() {
        edge(WOULD_SEND, "BAD_VALUE.");
        for (int ticks : new int[] {0, 51, -1, LEAST, MOST}) {
            refused("ticks " + ticks, x -> x.wouldSend(ticks, 0), BAD_VALUE);
            refused("ticks " + ticks, x -> x.wouldSend(ticks, 1), BAD_VALUE);
        }
        for (int mode : new int[] {-1, 2, LEAST, MOST}) {
            refused("mode " + mode, x -> x.wouldSend(1, mode), BAD_VALUE);
            refused("mode " + mode, x -> x.wouldSend(50, mode), BAD_VALUE);
        }
    }
}
