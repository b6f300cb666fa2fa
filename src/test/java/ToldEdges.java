/** The edges of what is told of lanes, inputs, packets and the box. */
final class ToldEdges extends Calls {
    private static final String LANE = "Promise 15: lane";
    private static final String SEATED = "Promise 16: seated";
    private static final String ON_THE_WAY = "Promise 17: onTheWay";
    private static final String INPUT = "Promise 18: input";
    private static final String PACKET = "Promise 19: packet";
    private static final String COUNT = "Promise 23: count";

    private ToldEdges() {
    }

    // ---- lane

    static void laneOutputs() {
        ChairCredits x = edge(LANE, "`output`: 0 to 3");
        x.setLane(0, 0, 1);
        x.setLane(3, 0, 8);
        due("0", x.lane(0, 0), 1);
        due("3", x.lane(3, 0), 8);
    }

    static void laneTells14Numbers() {
        ChairCredits x = edge(LANE, "`what`: 0 for the chairs, 1 for the period, 2 for the delay");
        lay(x, 1, 4, 3, 6);
        forge(x, 1, 2);
        read(x, "2>1*8,0>2,0>1,3>1*3");
        x.pass(6);
        x.lose(1);
        int[] numbers = {4, 3, 6, 100, 3, 1, 100, 3, 6, 2, 1, 1, 6, 0};
        for (int what = 0; what <= 13; what++) {
            due("lane(1, " + what + ")", x.lane(1, what), numbers[what]);
        }
    }

    static void creditsPlus100() {
        ChairCredits x = edge(LANE, "3 for the credits plus 100");
        indebt(x, 0);
        due("-2", x.lane(0, 3), 98);
        forge(x, 0, 18);
        due("16", x.lane(0, 3), 116);
        x.setLane(0, 0, 8);
        due("23", x.lane(0, 3), 123);
    }

    static void seatedUpTo8() {
        ChairCredits x = edge(LANE, "4 for the packets that are seated");
        lay(x, 0, 8, 9, 6);
        arrive(x, 0, 0, 8);
        for (int seats = 1; seats <= 8; seats++) {
            x.pass(1);
            due("seated", x.lane(0, 4), seats);
        }
        x.pass(1);
        due("one is taken", x.lane(0, 4), 7);
    }

    static void onTheirWayUpTo6() {
        ChairCredits x = edge(LANE, "5 for the credits on their way back");
        lay(x, 0, 8, 1, 6);
        arrive(x, 0, 0, 8);
        for (int ticks = 1; ticks <= 8; ticks++) {
            x.pass(1);
            due("on their way", x.lane(0, 5), Math.min(ticks, 6));
        }
    }

    static void missingPlus100() {
        ChairCredits x = edge(LANE, "6 for the missing credits plus 100");
        due("none", x.lane(0, 6), 100);
        x.forge(0);
        due("one too many", x.lane(0, 6), 99);
        dry(x, 1);
        due("one", x.lane(1, 6), 101);
    }

    static void turnBehind3Is0() {
        ChairCredits x = edge(LANE, "7 for the input whose turn it is");
        for (int input = 0; input < 4; input++) {
            x.arrive(input, 2);
            x.pass(1);
            due("behind " + input, x.lane(2, 7), input == 3 ? 0 : input + 1);
        }
    }

    static void sentWithSpilledOnes() {
        ChairCredits x = edge(LANE, "8 for packets sent so far (spilled ones, too, as in all that tells of sent ones)");
        lay(x, 1, 1, 9, 6);
        x.forge(1);
        read(x, "0>1*3");
        due("wouldSend", x.wouldSend(2, 0), 2);
        due("pass", x.pass(2), 2);
        due("spilled", x.lane(1, 10), 1);
        due("of the lane", x.lane(1, 8), 2);
        due("of the input", x.input(0, 2), 2);
        due("of the box", x.count(3), 2);
    }

    static void takenAndSpilledAndLost() {
        ChairCredits x = edge(LANE, "9 for packets taken so far, 10 for packets spilled so far, 11 for credits lost so far");
        lay(x, 3, 1, 1, 1);
        read(x, "0>3*3");
        x.pass(3);
        x.lose(3);
        due("taken", x.lane(3, 9), 3);
        due("spilled", x.lane(3, 10), 0);
        due("lost", x.lane(3, 11), 1);
        due("the missing one is repaired", x.repair(3), 101);
        due("it stays lost", x.lane(3, 11), 1);
        x.setLane(3, 0, 2);
        x.forge(3);
        x.repair(3);
        due("a repair loses none", x.lane(3, 11), 1);
        x.forge(3);
        x.set(1, 1);
        x.pass(1);
        due("nor does a watch", x.lane(3, 11), 1);
        due("which has repaired it", x.lane(3, 6), 100);
        x.setLane(3, 0, 1);
        due("nor do fewer chairs", x.lane(3, 11), 1);
    }

    static void waitingInAllQueues() {
        ChairCredits x = edge(LANE, "12 for packets that wait for it in all queues");
        due("none", x.lane(2, 12), 0);
        read(x, "0>1*7,0>2,3>2,3>1,2>2*8");
        due("at any place of any queue", x.lane(2, 12), 10);
        due("another lane's", x.lane(1, 12), 8);
        due("none for 3", x.lane(3, 12), 0);
        x = new ChairCredits();
        read(x, "0>3*8,1>3*8,2>3*8,3>3*8");
        due("the most", x.lane(3, 12), 32);
    }

    static void stuckIs1Otherwise0() {
        ChairCredits x = edge(LANE, "13 for whether it is stuck (1, otherwise 0)");
        due("a new one", x.lane(0, 13), 0);
        dry(x, 0);
        due("none waits", x.lane(0, 13), 0);
        x.arrive(0, 0);
        due("one waits", x.lane(0, 13), 1);
        x.arrive(0, 0);
        due("two wait", x.lane(0, 13), 1);
    }

    static void laneUnknown() {
        edge(LANE, "UNKNOWN;");
        for (int output : NO_PORT) {
            for (int what : new int[] {0, 11, 12, 13}) {
                refused("lane(" + output + ", " + what + ")", x -> x.lane(output, what), UNKNOWN);
            }
        }
    }

    static void laneBadValue() {
        edge(LANE, "BAD_VALUE.");
        for (int what : new int[] {-1, 14, LEAST, MOST}) {
            refused("lane(0, " + what + ")", x -> x.lane(0, what), BAD_VALUE);
        }
    }

    static void laneTellsTheNumber() {
        ChairCredits x = edge(LANE, "Returns the number;");
        due("what 0", x.lane(3, 0), 3);
        due("what 13", x.lane(3, 13), 0);
    }

    // ---- seated

    private static void seatThree(ChairCredits x) {
        lay(x, 0, 3, 9, 6);
        read(x, "2>0,1>0,0>0");
        x.pass(3);
    }

    static void seatedOutputs() {
        ChairCredits x = edge(SEATED, "`output`: 0 to 3");
        read(x, "0>0,1>3");
        x.pass(1);
        due("0", x.seated(0, 0), 0);
        due("3", x.seated(3, 0), 1);
        due("1", x.seated(1, 0), NONE);
    }

    static void fromTheOneSeatedFirst() {
        ChairCredits x = edge(SEATED, "`place`: a place among the packets that are seated, from the one that was seated first, from 0");
        seatThree(x);
        due("place 0", x.seated(0, 0), 2);
        due("place 1", x.seated(0, 1), 1);
        due("place 2", x.seated(0, 2), 0);
    }

    static void seatedTellsTheNumber() {
        ChairCredits x = edge(SEATED, "Returns the number of the packet;");
        read(x, "0>1,0>0");
        x.pass(2);
        due("the packet 0", x.seated(1, 0), NONE);
        due("the packet 1", x.seated(0, 0), NONE);
        x.undo();
        x.pass(1);
        due("the packet 0", x.seated(1, 0), 0);
    }

    static void seatedUnknown() {
        edge(SEATED, "UNKNOWN;");
        for (int output : NO_PORT) {
            refused("seated(" + output + ", 0)", x -> x.seated(output, 0), UNKNOWN);
        }
    }

    static void seatedAtANegativePlace() {
        edge(SEATED, "BAD_VALUE if place is negative;");
        for (int place : new int[] {-1, -2, LEAST}) {
            refused("seated(0, " + place + ")", x -> x.seated(0, place), BAD_VALUE);
            refused("with three", ToldEdges::seatThree, x -> x.seated(0, place), BAD_VALUE);
        }
    }

    static void notSoManySeated() {
        ChairCredits x = edge(SEATED, "NONE if there are not so many.");
        due("of none", x.seated(0, 0), NONE);
        for (int place : new int[] {3, 4, 7, 8, MOST}) {
            refused("of three, place " + place, ToldEdges::seatThree, y -> y.seated(0, place), NONE);
        }
        lay(x, 0, 8, 9, 6);
        arrive(x, 0, 0, 8);
        x.pass(8);
        due("the last of eight", x.seated(0, 7), 7);
        due("behind the eight", x.seated(0, 8), NONE);
        x.pass(1);
        due("behind the seven", x.seated(0, 7), NONE);
    }

    // ---- onTheWay

    private static void threeOnTheWay(ChairCredits x) {
        lay(x, 0, 3, 1, 6);
        read(x, "0>0*3");
        x.pass(3);
    }

    static void onTheWayOutputs() {
        ChairCredits x = edge(ON_THE_WAY, "`output`: 0 to 3");
        lay(x, 0, 3, 1, 3);
        lay(x, 3, 3, 1, 5);
        read(x, "0>0,1>3");
        x.pass(1);
        due("0", x.onTheWay(0, 0), 3);
        due("3", x.onTheWay(3, 0), 5);
        due("1", x.onTheWay(1, 0), NONE);
    }

    static void fromTheOneThatComesFirst() {
        ChairCredits x = edge(ON_THE_WAY, "`rank`: a rank among the credits on their way back, from the one that comes first, from 0");
        lay(x, 0, 8, 1, 6);
        read(x, "0>0*8");
        x.pass(1);
        x.setLane(0, 2, 2);
        x.pass(1);
        x.setLane(0, 2, 3);
        x.pass(1);
        due("rank 0", x.onTheWay(0, 0), 1);
        due("rank 1", x.onTheWay(0, 1), 3);
        due("rank 2", x.onTheWay(0, 2), 4);
        x.setLane(0, 2, 2);
        x.pass(1);
        due("rank 0 is one of two in one tick", x.onTheWay(0, 0), 2);
        due("rank 1 is the other", x.onTheWay(0, 1), 2);
        due("rank 2", x.onTheWay(0, 2), 3);
    }

    static void oneForTheNextTick() {
        ChairCredits x = edge(ON_THE_WAY, "Returns in how many ticks it comes (1 for the next tick that passes);");
        threeOnTheWay(x);
        for (int ticks = 4; ticks >= 1; ticks--) {
            due("in so many", x.onTheWay(0, 0), ticks);
            due("the next one", x.onTheWay(0, 1), ticks + 1);
            due("the last one", x.onTheWay(0, 2), ticks + 2);
            x.pass(1);
        }
        due("it has come", x.lane(0, 5), 2);
        due("the second is the first", x.onTheWay(0, 0), 1);
    }

    static void onTheWayUnknown() {
        edge(ON_THE_WAY, "UNKNOWN;");
        for (int output : NO_PORT) {
            refused("onTheWay(" + output + ", 0)", x -> x.onTheWay(output, 0), UNKNOWN);
        }
    }

    static void onTheWayAtANegativeRank() {
        edge(ON_THE_WAY, "BAD_VALUE if rank is negative;");
        for (int rank : new int[] {-1, -2, LEAST}) {
            refused("onTheWay(0, " + rank + ")", x -> x.onTheWay(0, rank), BAD_VALUE);
            refused("with three", ToldEdges::threeOnTheWay, x -> x.onTheWay(0, rank), BAD_VALUE);
        }
    }

    static void notSoManyOnTheirWay() {
        ChairCredits x = edge(ON_THE_WAY, "NONE if there are not so many.");
        due("of none", x.onTheWay(0, 0), NONE);
        for (int rank : new int[] {3, 4, 5, 6, MOST}) {
            refused("of three, rank " + rank, ToldEdges::threeOnTheWay, y -> y.onTheWay(0, rank), NONE);
        }
        lay(x, 0, 8, 1, 6);
        arrive(x, 0, 0, 8);
        x.pass(7);
        due("the last of six", x.onTheWay(0, 5), 6);
        due("behind the six", x.onTheWay(0, 6), NONE);
        x.lose(0);
        due("behind the five", x.onTheWay(0, 5), NONE);
    }

    // ---- input

    static void inputInputs() {
        ChairCredits x = edge(INPUT, "`input`: 0 to 3");
        read(x, "0>2*3,3>1*5");
        due("0", x.input(0, 0), 3);
        due("3", x.input(3, 0), 5);
        due("1", x.input(1, 0), 0);
    }

    static void inputTells4Numbers() {
        ChairCredits x = edge(INPUT, "`what`: 0 for the packets in its queue, 1 for the ticks for which it was blocked so far");
        dry(x, 0);
        read(x, "1>3*2,1>0*6");
        due("a full queue", x.input(1, 0), 8);
        x.pass(12);
        due("in its queue", x.input(1, 0), 6);
        due("blocked", x.input(1, 1), 10);
        due("sent", x.input(1, 2), 2);
        due("first is for", x.input(1, 3), 0);
    }

    static void noneWithoutAFirstPacket() {
        ChairCredits x = edge(INPUT, "3 for the output for which its first packet is (NONE without one)");
        refused("of a new one", y -> { }, y -> y.input(0, 3), NONE);
        x.arrive(2, 0);
        due("for 0", x.input(2, 3), 0);
        x.arrive(3, 3);
        due("for 3", x.input(3, 3), 3);
        x.pass(1);
        due("it has left", x.input(3, 3), NONE);
    }

    static void inputTellsTheNumber() {
        ChairCredits x = edge(INPUT, "Returns the number;");
        for (int what = 0; what <= 2; what++) {
            due("input(3, " + what + ")", x.input(3, what), 0);
        }
    }

    static void inputUnknown() {
        edge(INPUT, "UNKNOWN;");
        for (int input : NO_PORT) {
            refused("input(" + input + ", 0)", x -> x.input(input, 0), UNKNOWN);
        }
    }

    static void inputBadValue() {
        edge(INPUT, "BAD_VALUE.");
        for (int what : new int[] {-1, 4, LEAST, MOST}) {
            refused("input(0, " + what + ")", x -> x.input(0, what), BAD_VALUE);
        }
    }

    // ---- packet

    static void packetInputs() {
        ChairCredits x = edge(PACKET, "`input`: 0 to 3");
        read(x, "0>2,3>1");
        due("0", x.packet(0, 0, 0), 0);
        due("3", x.packet(3, 0, 0), 1);
        due("1", x.packet(1, 0, 0), NONE);
    }

    static void packetPlaces() {
        ChairCredits x = edge(PACKET, "`place`: a place in its queue, from 0");
        read(x, "1>0,2>0*8");
        due("place 0", x.packet(2, 0, 0), 1);
        due("place 7", x.packet(2, 7, 0), 8);
        x.pass(2);
        due("the second is at the place 0", x.packet(2, 0, 0), 2);
    }

    static void packetTells3Numbers() {
        ChairCredits x = edge(PACKET, "`what`: 0 for the number of the packet, 1 for the output, 2 for the tick in which it arrived");
        x.arrive(0, 3);
        due("number", x.packet(0, 0, 0), 0);
        due("output", x.packet(0, 0, 1), 3);
        due("tick", x.packet(0, 0, 2), 0);
        x = new ChairCredits();
        passToTheEnd(x);
        x.arrive(0, 0);
        due("the last tick", x.packet(0, 0, 2), 9999);
    }

    static void packetTellsTheNumber() {
        ChairCredits x = edge(PACKET, "Returns the number;");
        dry(x, 0);
        read(x, "2>0,2>1");
        x.pass(3);
        x.arrive(2, 3);
        packetsAt2(x, new int[][] {{1, 0, 1}, {2, 1, 1}, {3, 3, 4}});
        x.set(0, 1);
        x.pass(1);
        packetsAt2(x, new int[][] {{1, 0, 1}, {3, 3, 4}});
        x.forge(0);
        x.pass(1);
        packetsAt2(x, new int[][] {{3, 3, 4}});
    }

    private static void packetsAt2(ChairCredits x, int[][] numbers) {
        due("in the queue", x.input(2, 0), numbers.length);
        for (int place = 0; place < numbers.length; place++) {
            for (int what = 0; what < 3; what++) {
                due("packet(2, " + place + ", " + what + ")", x.packet(2, place, what), numbers[place][what]);
            }
        }
    }

    static void packetUnknown() {
        edge(PACKET, "UNKNOWN;");
        for (int input : NO_PORT) {
            refused("packet(" + input + ", 0, 0)", x -> x.packet(input, 0, 0), UNKNOWN);
        }
    }

    static void packetBadValue() {
        edge(PACKET, "BAD_VALUE (place is negative, or what);");
        for (int place : new int[] {-1, -2, LEAST}) {
            refused("place " + place, x -> x.packet(3, place, 0), BAD_VALUE);
        }
        for (int what : new int[] {-1, 3, LEAST, MOST}) {
            refused("what " + what, x -> x.packet(3, 0, what), BAD_VALUE);
            refused("what " + what + " of none", x -> x.packet(3, 8, what), BAD_VALUE);
        }
    }

    static void notSoManyPackets() {
        ChairCredits x = edge(PACKET, "NONE if there are not so many.");
        for (int what = 0; what <= 2; what++) {
            int told = what;
            refused("of none", y -> { }, y -> y.packet(0, 0, told), NONE);
            refused("behind two", y -> read(y, "0>0*2"), y -> y.packet(0, 2, told), NONE);
            refused("behind eight", y -> read(y, "0>0*8"), y -> y.packet(0, 8, told), NONE);
            refused("far behind", y -> read(y, "0>0*8"), y -> y.packet(0, MOST, told), NONE);
        }
        read(x, "0>0*8");
        due("the eighth", x.packet(0, 7, 0), 7);
        x.pass(1);
        due("the eighth no more", x.packet(0, 7, 0), NONE);
    }

    // ---- count

    static void countTells13Numbers() {
        ChairCredits x = edge(COUNT, "`what`: 0 for the tick, 1 for packets that arrived so far, 2 for packets in all queues");
        busy(x);
        x.set(1, 13);
        type(x, "0>0,");
        int[] numbers = {5, 20, 11, 9, 7, 1, 1, 11, 1, 13, 0, 4, 4};
        for (int what = 0; what <= 12; what++) {
            due("count(" + what + ")", x.count(what), numbers[what]);
        }
    }

    static void countsOfAllInputsAndOutputs() {
        ChairCredits x = edge(COUNT, "6 for packets that are seated, 7 for the ticks for which inputs were blocked so far");
        read(x, "0>0*8,1>1*8,2>2*8,3>3*8");
        due("in all queues", x.count(2), 32);
        x.pass(1);
        due("seated at all outputs", x.count(6), 4);
        due("sent", x.count(3), 4);
        due("blocked", x.count(7), 0);
        x.pass(1);
        due("taken at all outputs", x.count(4), 4);
        for (int output = 0; output < 4; output++) {
            lay(x, output, 8, 9, 6);
            x.setLane(output, 0, 1);
        }
        x.pass(1);
        due("blocked at all inputs", x.count(7), 4);
    }

    static void spilledAtAllOutputs() {
        ChairCredits x = edge(COUNT, "5 for packets spilled so far");
        for (int output = 0; output < 4; output++) {
            lay(x, output, 1, 9, 6);
            x.forge(output);
        }
        read(x, "0>0*2,1>1*2,2>2*2,3>3*2");
        x.pass(2);
        due("spilled", x.count(5), 4);
    }

    static void stuckLanesUpTo4() {
        ChairCredits x = edge(COUNT, "10 for outputs whose lane is stuck");
        for (int output = 0; output < 4; output++) {
            dry(x, output);
        }
        due("none waits", x.count(10), 0);
        for (int output = 0; output < 4; output++) {
            x.arrive(0, output);
            due("stuck", x.count(10), output + 1);
        }
        x.set(1, 1);
        due("with a watch", x.count(10), 0);
    }

    static void statesAndText() {
        ChairCredits x = edge(COUNT, "11 for the states in the history, 12 for the length of the text");
        due("states", x.count(11), 0);
        due("length", x.count(12), 0);
        forge(x, 0, 5);
        type(x, "0".repeat(60));
        due("states", x.count(11), 4);
        due("length", x.count(12), 60);
    }

    static void countBadValue() {
        edge(COUNT, "BAD_VALUE.");
        for (int what : new int[] {-1, 13, LEAST, MOST}) {
            refused("count(" + what + ")", x -> x.count(what), BAD_VALUE);
        }
    }

    static void countTellsTheNumber() {
        ChairCredits x = edge(COUNT, "Returns the number;");
        passToTheEnd(x);
        due("the last tick", x.count(0), 9999);
        x.set(1, 60);
        due("the most of the watch", x.count(9), 60);
        x.set(0, 1);
        due("the mode", x.count(8), 1);
    }
}
