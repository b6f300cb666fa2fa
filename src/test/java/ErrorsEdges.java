/** The edges of errors: their order, NONE, and that they change nothing. */
final class ErrorsEdges extends Calls {
    private static final String ERRORS = "ERRORS";

    private ErrorsEdges() {
    }

    static void constants() {
        edge(ERRORS, "`UNKNOWN = -1`: There is no such input or output.");
        due("UNKNOWN", ChairCredits.UNKNOWN, -1);
        edge(ERRORS, "`BAD_VALUE = -2`: Another argument is out of range.");
        due("BAD_VALUE", ChairCredits.BAD_VALUE, -2);
        edge(ERRORS, "`FULL = -3`: There is no more room.");
        due("FULL", ChairCredits.FULL, -3);
        edge(ERRORS, "`NOT_POSSIBLE = -4`: This is not possible.");
        due("NOT_POSSIBLE", ChairCredits.NOT_POSSIBLE, -4);
        edge(ERRORS, "`NONE = -5`: There is no such thing;");
        due("NONE", ChairCredits.NONE, -5);
    }

    static void unknownAheadOfBadValue() {
        ChairCredits x = edge(ERRORS, "Where several errors can apply, the order of the @return line is the order of the checks.");
        for (int port : NO_PORT) {
            due("setLane, what", x.setLane(port, 3, 1), UNKNOWN);
            due("setLane, value", x.setLane(port, 0, 0), UNKNOWN);
            due("lane", x.lane(port, 14), UNKNOWN);
            due("seated", x.seated(port, -1), UNKNOWN);
            due("onTheWay", x.onTheWay(port, -1), UNKNOWN);
            due("input", x.input(port, 4), UNKNOWN);
            due("packet, place", x.packet(port, -1, 0), UNKNOWN);
            due("packet, what", x.packet(port, 0, 3), UNKNOWN);
            due("leavesIn, place", x.leavesIn(port, -1), UNKNOWN);
            due("leavesIn, no packet", x.leavesIn(port, 0), UNKNOWN);
        }
    }

    static void unknownAheadOfTheOthers() {
        ChairCredits x = edge(ERRORS, "the order of the @return line");
        arrive(x, 0, 0, 8);
        due("arrive, ahead of FULL", x.arrive(0, 4), UNKNOWN);
        due("arrive, ahead of FULL", x.arrive(0, -1), UNKNOWN);
        due("lose, ahead of NOT_POSSIBLE", x.lose(4), UNKNOWN);
        due("repair, ahead of NONE", x.repair(4), UNKNOWN);
        due("seated, ahead of NONE", x.seated(4, 0), UNKNOWN);
        due("onTheWay, ahead of NONE", x.onTheWay(4, 0), UNKNOWN);
        due("packet, ahead of NONE", x.packet(4, 0, 0), UNKNOWN);
        due("input, ahead of NONE", x.input(4, 3), UNKNOWN);
        due("next, ahead of NONE", x.next(4), UNKNOWN);
    }

    static void badValueAheadOfNotPossible() {
        ChairCredits x = edge(ERRORS, "is the order of the checks.");
        passToTheEnd(x);
        for (int ticks : new int[] {0, -1, 51, LEAST, MOST}) {
            due("pass(" + ticks + ") in the tick 9999", x.pass(ticks), BAD_VALUE);
        }
        x = new ChairCredits();
        x.setLane(0, 1, 9);
        x.arrive(0, 0);
        x.pass(1);
        for (int value : new int[] {0, -1, LEAST}) {
            due("setLane(0, 0, " + value + ") with one seated", x.setLane(0, 0, value), BAD_VALUE);
        }
    }

    static void faultAheadOfFull() {
        ChairCredits x = edge(ERRORS, "Where several errors can apply");
        due("a fault behind too many packets", read(x, "0>0*9,4"), -106);
        due("an end too early behind too many", read(x, "0>0*9,"), -106);
        arrive(x, 0, 0, 8);
        due("the empty text with a full queue", read(x, ""), -100);
        due("a fault behind one too many", read(x, "0>0x"), -103);
    }

    static void noneIsReturnedOnlyIfNoErrorApplies() {
        ChairCredits x = edge(ERRORS, "it is returned only if no error applies.");
        due("packet, what", x.packet(0, 0, 3), BAD_VALUE);
        due("packet, what", x.packet(0, MOST, -1), BAD_VALUE);
        due("packet, place", x.packet(0, -1, 0), BAD_VALUE);
        due("seated", x.seated(0, -1), BAD_VALUE);
        due("onTheWay", x.onTheWay(0, -1), BAD_VALUE);
        due("input, what", x.input(0, 4), BAD_VALUE);
        due("leavesIn of a packet that does not leave", x.leavesIn(0, 0), BAD_VALUE);
        due("set as it is, what", x.set(2, 0), BAD_VALUE);
        due("setLane as it is, what", x.setLane(0, 3, 3), BAD_VALUE);
    }

    static void noneIsNoError() {
        edge(ERRORS, "NONE is no error;");
        refused("yet it is not recorded", x -> x.set(0, 1), NONE);
    }

    static void noneChangesNothing() {
        edge(ERRORS, "not an error.");
        refused("setLane", x -> x.setLane(3, 0, 3), NONE);
        refused("repair", x -> x.repair(0), NONE);
        refused("seated", x -> x.seated(0, 8), NONE);
        refused("packet", x -> x.packet(0, 8, 0), NONE);
    }

    static void anErrorChangesNothing() {
        edge(ERRORS, "A call that returns an error or NONE changes nothing.");
        refused("UNKNOWN", x -> x.arrive(0, 4), UNKNOWN);
        refused("BAD_VALUE", x -> x.pass(51), BAD_VALUE);
        refused("FULL", x -> read(x, "1>0*8"), x -> x.arrive(1, 0), FULL);
        refused("NOT_POSSIBLE", x -> { }, x -> x.lose(0), NOT_POSSIBLE);
        refused("a fault", x -> type(x, "0>0,1>"), ChairCredits::readArrivals, -106);
        refused("FULL of a text", x -> type(x, "0>0,1>1*9"), ChairCredits::readArrivals, FULL);
    }
}
