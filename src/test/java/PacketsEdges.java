/** The edges of arrive(), readArrivals() and pass(). */
final class PacketsEdges extends Calls {
    private static final String ARRIVE = "Promise 4: arrive";
    private static final String READ = "Promise 5: readArrivals";
    private static final String PASS = "Promise 6: pass";

    private PacketsEdges() {
    }

    // ---- arrive

    static void aPacketArrives() {
        ChairCredits x = edge(ARRIVE, "Lets a packet arrive.");
        x.arrive(1, 2);
        due("in the queue", x.input(1, 0), 1);
        due("its output", x.packet(1, 0, 1), 2);
        x.arrive(1, 0);
        due("behind the others", x.packet(1, 1, 1), 0);
    }

    static void arriveIsAnAct() {
        edge(ARRIVE, "This is an act.");
        isAct("arrive(0, 0), the packet 0", x -> { }, x -> x.arrive(0, 0));
        isAct("the eighth", x -> read(x, "3>3*7"), x -> x.arrive(3, 3));
    }

    static void arriveInputs() {
        ChairCredits x = edge(ARRIVE, "`input`: 0 to 3");
        due("0", x.arrive(0, 1), 0);
        due("3", x.arrive(3, 1), 1);
        due("in the queue 0", x.input(0, 0), 1);
        due("in the queue 3", x.input(3, 0), 1);
    }

    static void arriveOutputs() {
        ChairCredits x = edge(ARRIVE, "`output`: 0 to 3");
        due("0", x.arrive(1, 0), 0);
        due("3", x.arrive(1, 3), 1);
        due("for 0", x.lane(0, 12), 1);
        due("for 3", x.lane(3, 12), 1);
    }

    static void arriveAnswersItsNumber() {
        ChairCredits x = edge(ARRIVE, "Returns its number;");
        due("the first", x.arrive(2, 2), 0);
        x.pass(50);
        due("the second", x.arrive(2, 2), 1);
        x.undo();
        due("the second again", x.arrive(0, 0), 1);
    }

    static void arriveUnknown() {
        edge(ARRIVE, "UNKNOWN (input or output);");
        for (int port : NO_PORT) {
            refused("input " + port, x -> x.arrive(port, 0), UNKNOWN);
            refused("output " + port, x -> x.arrive(0, port), UNKNOWN);
            refused("both " + port, x -> x.arrive(port, port), UNKNOWN);
        }
    }

    static void arriveInAFullQueue() {
        ChairCredits x = edge(ARRIVE, "FULL if the queue has 8 packets.");
        read(x, "1>0*7");
        due("the eighth", x.arrive(1, 3), 7);
        due("the ninth", x.arrive(1, 3), FULL);
        due("at another input", x.arrive(2, 3), 8);
        for (int output = 0; output < 4; output++) {
            int ninth = output;
            refused("the ninth for " + output, y -> read(y, "1>0*8"), y -> y.arrive(1, ninth), FULL);
        }
    }

    // ---- readArrivals

    static void oneAfterTheOther() {
        ChairCredits x = edge(READ, "Lets the arrivals of the text, which stays, arrive, one after the other;");
        due("four", read(x, "3>0*2,0>1,3>2"), 4);
        due("first", x.packet(3, 0, 0), 0);
        due("second", x.packet(3, 1, 0), 1);
        due("third", x.packet(0, 0, 0), 2);
        due("fourth", x.packet(3, 2, 0), 3);
        due("the text stays", x.count(12), 13);
        due("and can be read again", x.readArrivals(), 4);
    }

    static void allOrNone() {
        ChairCredits x = edge(READ, "all of them, or none.");
        read(x, "3>3*8");
        type(x, "0>0,1>1*8,3>3");
        due("the last one finds no room", x.readArrivals(), FULL);
        due("none came", x.count(2), 8);
        due("the next number", x.arrive(0, 0), 8);
        type(x, "0>0,1>1,4");
        due("a fault at the end", x.readArrivals(), -108);
        due("none came", x.count(2), 9);
    }

    static void oneAct() {
        edge(READ, "This is one act.");
        isAct("several arrivals", x -> type(x, "0>0*8,1>1,2>2"), ChairCredits::readArrivals);
        isAct("one arrival", x -> type(x, "0>0"), ChairCredits::readArrivals);
    }

    static void readAnswersHowMany() {
        ChairCredits x = edge(READ, "Returns how many packets arrive;");
        due("one", read(x, "0>0"), 1);
        due("one, told", read(x, "0>0*1"), 1);
        due("two", read(x, "0>1,1>0"), 2);
        x = new ChairCredits();
        due("all that have room", read(x, "0>0*8,1>1*8,2>2*8,3>3*8"), 32);
        due("no more", read(x, "0>0"), FULL);
        x = new ChairCredits();
        due("as many as a text tells without a number", read(x, "0>0,1>1,2>2,3>3,".repeat(3) + "0>1,1>2,2>3"), 15);
    }

    static void readAnswersTheFault() {
        edge(READ, "-100 minus the fault of the text if it has one (which is an error);");
        refused("the empty text", ChairCredits::clearText, ChairCredits::readArrivals, -100);
        refused("a fault at 0", x -> type(x, "4>0"), ChairCredits::readArrivals, -100);
        refused("a fault in the middle", x -> type(x, "0>0,0>0*10"), ChairCredits::readArrivals, -109);
        refused("a fault at the end", x -> type(x, "0>0,"), ChairCredits::readArrivals, -104);
        refused("a fault at 59", x -> type(x, "0>0*1,".repeat(9) + "0>0*1>"), ChairCredits::readArrivals, -159);
        refused("a fault at 60", x -> type(x, "0>0*1,".repeat(10)), ChairCredits::readArrivals, -160);
    }

    static void aQueueWouldHaveMoreThan8() {
        ChairCredits x = edge(READ, "FULL if any queue would have more than 8 packets.");
        due("8", read(x, "2>0*8"), 8);
        refused("8 and 1", y -> type(y, "2>0*8,2>1"), ChairCredits::readArrivals, FULL);
        refused("9", y -> type(y, "2>0*9"), ChairCredits::readArrivals, FULL);
        for (int input = 0; input < 4; input++) {
            int full = input;
            refused("7 and 2 at " + input, y -> {
                arrive(y, full, 0, 7);
                type(y, full + ">0*2");
            }, ChairCredits::readArrivals, FULL);
            x = new ChairCredits();
            arrive(x, input, 0, 7);
            due("7 and 1 at " + input, read(x, input + ">0"), 1);
            due("8 and 1 at " + input, x.readArrivals(), FULL);
        }
    }

    // ---- pass

    static void passLetsTicksPass() {
        ChairCredits x = edge(PASS, "Lets ticks pass.");
        for (int ticks = 1; ticks <= 50; ticks++) {
            int before = x.count(0);
            x.pass(ticks);
            due("pass(" + ticks + ")", x.count(0) - before, ticks);
        }
    }

    static void passIsAnAct() {
        edge(PASS, "This is an act.");
        isAct("pass(1) that sends none", x -> { }, x -> x.pass(1));
        isAct("pass(1) that sends one", x -> x.arrive(0, 0), x -> x.pass(1));
        isAct("pass(50)", x -> read(x, "0>0*8,1>0*8"), x -> x.pass(50));
    }

    static void passFrom1To50() {
        ChairCredits x = edge(PASS, "`ticks`: 1 to 50");
        due("1", x.pass(1), 0);
        due("50", x.pass(50), 0);
        due("tick", x.count(0), 51);
    }

    static void passAnswersHowManyAreSent() {
        ChairCredits x = edge(PASS, "Returns how many packets are sent in them;");
        due("none", x.pass(50), 0);
        read(x, "0>0*8,1>1*8,2>2*8,3>3*8");
        due("four in a tick", x.pass(1), 4);
        due("all the others", x.pass(50), 28);
        due("none is left", x.pass(50), 0);
        x.setLane(0, 0, 1);
        forge(x, 0, 3);
        read(x, "0>0*4");
        due("spilled ones, too", x.pass(4), 4);
    }

    static void passBadValue() {
        edge(PASS, "BAD_VALUE;");
        for (int ticks : new int[] {0, 51, -1, LEAST, MOST}) {
            refused("pass(" + ticks + ")", x -> x.pass(ticks), BAD_VALUE);
        }
    }

    static void notBeyondTheTick9999() {
        ChairCredits x = edge(PASS, "NOT_POSSIBLE if the tick would become more than 9999.");
        for (int i = 0; i < 199; i++) {
            due("50 ticks", x.pass(50), 0);
        }
        x.arrive(2, 2);
        due("to 10000", x.pass(50), NOT_POSSIBLE);
        due("the tick stays", x.count(0), 9950);
        due("to 9999", x.pass(49), 1);
        due("the tick", x.count(0), 9999);
        due("to 10000", x.pass(1), NOT_POSSIBLE);
        due("to 10049", x.pass(50), NOT_POSSIBLE);
        due("the tick stays", x.count(0), 9999);
        x.undo();
        due("to 9951", x.pass(1), 1);
        due("to 10000", x.pass(49), NOT_POSSIBLE);
        due("to 9999", x.pass(48), 0);
        refused("one tick more", Calls::passToTheEnd, y -> y.pass(1), NOT_POSSIBLE);
        refused("50 ticks more", Calls::passToTheEnd, y -> y.pass(50), NOT_POSSIBLE);
    }
}
