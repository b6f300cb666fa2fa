/** The edges of what a box has: its use, its inputs and outputs, and a new object. */
final class BoxEdges extends Calls {
    private static final String PORTS = "INPUTS AND OUTPUTS";
    private static final String NEW = "Promise 1: A new object";

    private BoxEdges() {
    }

    static void the512thCallIsAnswered() {
        ChairCredits x = edge("What it is", "An object is used for at most 512 calls after it has been made");
        for (int i = 0; i < 256; i++) {
            due("call " + (2 * i + 1), x.arrive(i % 4, i % 4), i);
            due("call " + (2 * i + 2), x.pass(1), 1);
        }
    }

    static void portsFrom0To3() {
        ChairCredits x = edge(PORTS, "There are 4 inputs and 4 outputs, both numbered from 0.");
        for (int port = 0; port < 4; port++) {
            due("the output " + port, x.lane(port, 0), 3);
            due("the input " + port, x.input(port, 0), 0);
            due("a packet for it", x.arrive(port, port), port);
        }
        for (int port : NO_PORT) {
            due("no output " + port, x.lane(port, 0), UNKNOWN);
            due("no input " + port, x.input(port, 0), UNKNOWN);
        }
    }

    static void queueOf8() {
        ChairCredits x = edge(PORTS, "An input has a queue of at most 8 packets.");
        for (int input = 0; input < 4; input++) {
            for (int i = 0; i < 8; i++) {
                due("a packet", x.arrive(input, 0), 8 * input + i);
            }
            due("the ninth", x.arrive(input, 0), FULL);
            due("in its queue", x.input(input, 0), 8);
        }
        x.pass(1);
        due("room for one behind the one that left", x.arrive(0, 1), 32);
        due("and for no more", x.arrive(0, 1), FULL);
        due("the last place", x.packet(0, 7, 0), 32);
        due("none behind it", x.packet(0, 8, 0), NONE);
    }

    static void numbersFrom0() {
        ChairCredits x = edge(PORTS, "packets are numbered from 0 in the order in which they arrive");
        due("the first", x.arrive(3, 3), 0);
        due("at another input", x.arrive(0, 0), 1);
        due("one that does not arrive", x.arrive(0, 4), UNKNOWN);
        due("takes no number", x.arrive(3, 0), 2);
        due("six by a text", read(x, "0>1*6"), 6);
        due("the last of them", x.packet(0, 6, 0), 8);
        due("two, of which one finds no room", read(x, "1>1,0>0*2"), FULL);
        due("take no number", x.arrive(0, 2), 9);
        due("nor does the one that finds no room", x.arrive(0, 2), FULL);
        due("the next", x.arrive(1, 0), 10);
    }

    static void chairsFrom1To8() {
        ChairCredits x = edge(PORTS, "some chairs (1 to 8, at first 3)");
        settingEdges(x, 0, 3, 8);
    }

    static void periodFrom1To9() {
        ChairCredits x = edge(PORTS, "a period (1 to 9, at first 2)");
        settingEdges(x, 1, 2, 9);
    }

    static void delayFrom1To6() {
        ChairCredits x = edge(PORTS, "a delay (1 to 6, at first 2)");
        settingEdges(x, 2, 2, 6);
    }

    private static void settingEdges(ChairCredits x, int what, int first, int most) {
        for (int output = 0; output < 4; output++) {
            due("at first", x.lane(output, what), first);
            due("0", x.setLane(output, what, 0), BAD_VALUE);
            due("more than the most", x.setLane(output, what, most + 1), BAD_VALUE);
            due("is as it was", x.lane(output, what), first);
            due("1", x.setLane(output, what, 1), first);
            due("is 1", x.lane(output, what), 1);
            due("the most", x.setLane(output, what, most), 1);
            due("is the most", x.lane(output, what), most);
        }
    }

    static void creditsAtFirst() {
        ChairCredits x = edge(PORTS, "credits (at first as many as chairs)");
        for (int output = 0; output < 4; output++) {
            due("credits", x.lane(output, 3), 103);
        }
    }

    static void noneSeatedAtFirst() {
        ChairCredits x = edge(PORTS, "packets that are seated (none at first)");
        for (int output = 0; output < 4; output++) {
            due("seated", x.lane(output, 4), 0);
            due("on the first chair", x.seated(output, 0), NONE);
        }
    }

    static void noneOnTheWayAtFirst() {
        ChairCredits x = edge(PORTS, "credits on their way back (none at first)");
        for (int output = 0; output < 4; output++) {
            due("on their way", x.lane(output, 5), 0);
            due("the first", x.onTheWay(output, 0), NONE);
        }
    }

    static void turnAtFirst() {
        ChairCredits x = edge(PORTS, "an input whose turn it is (at first 0)");
        read(x, "3>0,0>0,3>1,2>1");
        for (int output = 0; output < 4; output++) {
            due("turn", x.lane(output, 7), 0);
        }
        due("the input 0 is chosen", x.next(0), 1);
        due("the next behind 0 is", x.next(1), 3);
    }

    static void newBoxIsEmpty() {
        ChairCredits x = edge(NEW, "Creates a box without packets.");
        for (int what = 0; what <= 12; what++) {
            due("count(" + what + ")", x.count(what), 0);
        }
        for (int port = 0; port < 4; port++) {
            due("in the queue", x.input(port, 0), 0);
            due("first packet", x.packet(port, 0, 0), NONE);
            due("first packet's output", x.input(port, 3), NONE);
            due("seated", x.seated(port, 0), NONE);
            due("leaves in", x.leavesIn(port, 0), BAD_VALUE);
            due("next", x.next(port), NONE);
        }
        due("would send", x.wouldSend(50, 1), 0);
        due("sends", x.pass(50), 0);
    }

    static void newBoxSharesNothing() {
        ChairCredits other = edge(NEW, "`ChairCredits()`: Creates");
        crowded(other);
        ChairCredits x = new ChairCredits();
        other.forge(0);
        other.type('0');
        due("packets", x.count(1), 0);
        due("text", x.count(12), 0);
        due("history", x.undo(), NONE);
        due("snapshot", x.restore(), NONE);
        Check.holds("as a new one", state(x).equals(state(new ChairCredits())));
    }
}
