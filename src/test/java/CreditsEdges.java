/** The edges of credits: missing ones, repairs, stuck lanes, lose(), forge() and repair(). */
final class CreditsEdges extends Calls {
    private static final String CREDITS = "CREDITS";
    private static final String LOSE = "Promise 7: lose";
    private static final String FORGE = "Promise 8: forge";
    private static final String REPAIR = "Promise 9: repair";

    private CreditsEdges() {
    }

    // ---- missing credits

    static void noneIsMissingOnItsRound() {
        ChairCredits x = edge(CREDITS,
            "its chairs, less its credits, less the packets that are seated, less the credits on their way back");
        lay(x, 0, 2, 3, 4);
        read(x, "0>0*8");
        for (int tick = 0; tick < 30; tick++) {
            due("missing", x.lane(0, 6), 100);
            x.pass(1);
        }
    }

    static void missingMayBeBelow0() {
        ChairCredits x = edge(CREDITS, "(below 0 if there are too many)");
        x.forge(0);
        due("one too many", x.lane(0, 6), 99);
        x.setLane(0, 0, 1);
        forge(x, 0, 14);
        due("fifteen too many", x.lane(0, 6), 85);
    }

    static void missingUpTo8() {
        ChairCredits x = edge(CREDITS, "The missing credits of a lane are its chairs, less its credits");
        lay(x, 0, 8, 1, 1);
        read(x, "0>0*8");
        for (int missing = 1; missing <= 8; missing++) {
            x.pass(1);
            x.lose(0);
            due("missing", x.lane(0, 6), 100 + missing);
        }
        due("credits", credits(x, 0), 0);
        due("repair", x.repair(0), 108);
        due("credits", credits(x, 0), 8);
    }

    // ---- to repair

    static void noneIsMissingBehindARepair() {
        ChairCredits x = edge(CREDITS, "To repair a lane is to change its credits so that none is missing.");
        forge(x, 1, 3);
        x.repair(1);
        due("missing", x.lane(1, 6), 100);
        due("credits", credits(x, 1), 3);
        dry(x, 2);
        x.repair(2);
        due("missing", x.lane(2, 6), 100);
        due("credits", credits(x, 2), 1);
    }

    static void repairedToBelow0() {
        ChairCredits x = edge(CREDITS, "(They can be below 0 behind that, if more packets are seated");
        indebt(x, 0);
        forge(x, 0, 5);
        due("credits", credits(x, 0), 3);
        due("repair", x.repair(0), 95);
        due("credits", credits(x, 0), -2);
    }

    static void watchRepairsToBelow0() {
        ChairCredits x = edge(CREDITS, "or credits are on their way than there are chairs;");
        indebt(x, 0);
        forge(x, 0, 5);
        x.arrive(0, 0);
        x.set(1, 1);
        due("sent", x.pass(1), 0);
        due("credits", credits(x, 0), -2);
    }

    static void seatedAndOnTheWayToBelow0() {
        ChairCredits x = edge(CREDITS, "if more packets are seated or credits are on their way");
        lay(x, 0, 3, 4, 6);
        read(x, "0>0*3");
        x.pass(4);
        due("seated", x.lane(0, 4), 2);
        due("on their way", x.lane(0, 5), 1);
        x.setLane(0, 0, 2);
        x.forge(0);
        due("repair", x.repair(0), 99);
        due("credits", credits(x, 0), -1);
    }

    static void nothingIsSentBelow0() {
        ChairCredits x = edge(CREDITS, "nothing is sent then.)");
        indebt(x, 0);
        x.forge(0);
        x.repair(0);
        x.arrive(0, 0);
        due("next", x.next(0), NONE);
        due("in the ticks 3 to 5 at -2", x.pass(3), 0);
        due("in the tick 6 at -1", x.pass(1), 0);
        due("in the tick 7 at 0", x.pass(1), 0);
        due("in the tick 8 at 1", x.pass(1), 1);
    }

    // ---- stuck lanes

    static void stuckIfAllHolds() {
        ChairCredits x = edge(CREDITS, "A lane is stuck if");
        for (int output = 0; output < 4; output++) {
            x = new ChairCredits();
            dry(x, output);
            x.arrive(1, output);
            for (int other = 0; other < 4; other++) {
                due("the lane " + other, x.lane(other, 13), other == output ? 1 : 0);
            }
            due("stuck lanes", x.count(10), 1);
            x.pass(50);
            due("for ever", x.lane(output, 13), 1);
        }
    }

    static void stuckOnlyIfAPacketWaits() {
        ChairCredits x = edge(CREDITS, "any packet waits for it in a queue");
        dry(x, 0);
        due("none waits", x.lane(0, 13), 0);
        read(x, "2>1*7");
        due("none waits for it", x.lane(0, 13), 0);
        x.arrive(2, 0);
        due("one waits at the last place", x.lane(0, 13), 1);
        x.undo();
        x.arrive(3, 0);
        due("one waits at the first place", x.lane(0, 13), 1);
    }

    static void stuckOnlyWithoutCredits() {
        ChairCredits x = edge(CREDITS, "its credits are 0 or less");
        dry(x, 0);
        x.arrive(0, 0);
        due("0 credits", x.lane(0, 13), 1);
        x.forge(0);
        due("1 credit", x.lane(0, 13), 0);
        x = new ChairCredits();
        lay(x, 0, 2, 1, 1);
        read(x, "0>0*3");
        for (int i = 0; i < 2; i++) {
            x.pass(1);
            x.lose(0);
        }
        x.setLane(0, 0, 1);
        due("credits", credits(x, 0), -1);
        due("-1 credits", x.lane(0, 13), 1);
    }

    static void notStuckWithAPacketSeated() {
        ChairCredits x = edge(CREDITS, "no packet is seated");
        lay(x, 0, 1, 9, 1);
        read(x, "0>0*2");
        x.pass(8);
        due("seated", x.lane(0, 4), 1);
        due("on the way", x.lane(0, 5), 0);
        due("not stuck", x.lane(0, 13), 0);
        x.pass(1);
        x.lose(0);
        due("seated no more", x.lane(0, 13), 1);
    }

    static void notStuckWithACreditOnItsWay() {
        ChairCredits x = edge(CREDITS, "no credit is on its way back");
        lay(x, 0, 1, 1, 6);
        read(x, "0>0*2");
        x.pass(1);
        due("seated", x.lane(0, 4), 0);
        due("on the way", x.lane(0, 5), 1);
        due("not stuck", x.lane(0, 13), 0);
        x.lose(0);
        due("on the way no more", x.lane(0, 13), 1);
        x = new ChairCredits();
        indebt(x, 0);
        x.arrive(0, 0);
        for (int onTheWay = 3; onTheWay > 0; onTheWay--) {
            due("on the way, to a lane with -2 credits", x.lane(0, 13), 0);
            x.lose(0);
        }
        due("none is on the way to it", x.lane(0, 13), 1);
    }

    static void notStuckWithAWatch() {
        ChairCredits x = edge(CREDITS, "and there is no watch.");
        dry(x, 0);
        x.arrive(0, 0);
        x.set(1, 60);
        due("with the watch 60", x.lane(0, 13), 0);
        x.set(1, 1);
        due("with the watch 1", x.lane(0, 13), 0);
        x.set(1, 0);
        due("without", x.lane(0, 13), 1);
    }

    // ---- lose

    static void theOneThatWouldComeFirstIsLost() {
        ChairCredits x = edge(LOSE, "Loses the credit on its way back that would come first.");
        lay(x, 1, 3, 1, 6);
        read(x, "0>1*3");
        x.pass(1);
        x.setLane(1, 2, 2);
        x.pass(1);
        due("first", x.onTheWay(1, 0), 2);
        due("second", x.onTheWay(1, 1), 5);
        x.lose(1);
        due("the later one that comes first is lost", x.onTheWay(1, 0), 5);
        due("one is left", x.lane(1, 5), 1);
    }

    static void theLostOneNeverComes() {
        ChairCredits x = edge(LOSE, "Loses the credit");
        lay(x, 0, 3, 1, 1);
        x.arrive(0, 0);
        x.pass(1);
        x.lose(0);
        x.pass(50);
        due("credits", credits(x, 0), 2);
        due("missing", x.lane(0, 6), 101);
        due("lost", x.lane(0, 11), 1);
    }

    static void loseIsAnAct() {
        edge(LOSE, "This is an act.");
        isAct("lose() of the last one", x -> {
            x.setLane(3, 1, 1);
            x.arrive(3, 3);
            x.pass(1);
        }, x -> x.lose(3));
    }

    static void loseOutputs() {
        ChairCredits x = edge(LOSE, "`output`: 0 to 3");
        x.setLane(0, 1, 1);
        x.setLane(3, 1, 1);
        read(x, "0>0,1>3");
        x.pass(1);
        due("0", x.lose(0), 0);
        due("3 has its own", x.lane(3, 5), 1);
        due("3", x.lose(3), 0);
        due("lost at 0", x.lane(0, 11), 1);
        due("lost at 3", x.lane(3, 11), 1);
    }

    static void loseAnswersHowManyAreLeft() {
        ChairCredits x = edge(LOSE, "Returns how many are on their way back then;");
        lay(x, 0, 8, 1, 6);
        read(x, "0>0*8");
        x.pass(6);
        for (int left = 5; left >= 0; left--) {
            due("lose", x.lose(0), left);
            due("on their way", x.lane(0, 5), left);
        }
    }

    static void loseUnknown() {
        edge(LOSE, "UNKNOWN;");
        for (int output : NO_PORT) {
            refused("lose(" + output + ")", x -> x.lose(output), UNKNOWN);
        }
    }

    static void loseNothing() {
        edge(LOSE, "NOT_POSSIBLE if there is none.");
        refused("of a new one", x -> { }, x -> x.lose(0), NOT_POSSIBLE);
        refused("with one at another lane", x -> {
            x.setLane(1, 1, 1);
            x.arrive(0, 1);
            x.pass(1);
        }, x -> x.lose(0), NOT_POSSIBLE);
        refused("with a packet seated", x -> {
            x.setLane(0, 1, 9);
            x.arrive(0, 0);
            x.pass(1);
        }, x -> x.lose(0), NOT_POSSIBLE);
        refused("with all of them lost", x -> dry(x, 0), x -> x.lose(0), NOT_POSSIBLE);
        refused("with all of them come", x -> {
            lay(x, 0, 3, 1, 1);
            x.arrive(0, 0);
            x.pass(2);
        }, x -> x.lose(0), NOT_POSSIBLE);
    }

    // ---- forge

    static void creditsMoreBy1() {
        ChairCredits x = edge(FORGE, "Forges a credit: its credits become more by 1.");
        x.forge(2);
        due("credits", credits(x, 2), 4);
        due("those of another lane", credits(x, 1), 3);
        due("missing", x.lane(2, 6), 99);
        x = new ChairCredits();
        dry(x, 0);
        x.arrive(0, 0);
        x.forge(0);
        due("it can be used", x.pass(1), 1);
    }

    static void forgeIsAnAct() {
        edge(FORGE, "This is an act.");
        isAct("forge(0)", x -> { }, x -> x.forge(0));
        isAct("forge(3) at 15", x -> forge(x, 3, 12), x -> x.forge(3));
    }

    static void forgeOutputs() {
        ChairCredits x = edge(FORGE, "`output`: 0 to 3");
        due("0", x.forge(0), 104);
        due("3", x.forge(3), 104);
        due("0 again", x.forge(0), 105);
    }

    static void forgeAnswersBelow100() {
        ChairCredits x = edge(FORGE, "Returns its credits then, plus 100;");
        indebt(x, 0);
        due("to -1", x.forge(0), 99);
        due("to 0", x.forge(0), 100);
        due("to 1", x.forge(0), 101);
    }

    static void forgeUnknown() {
        edge(FORGE, "UNKNOWN;");
        for (int output : NO_PORT) {
            refused("forge(" + output + ")", x -> x.forge(output), UNKNOWN);
        }
    }

    static void forgeUpTo16() {
        ChairCredits x = edge(FORGE, "FULL if there are 16 or more.");
        forge(x, 0, 12);
        due("credits", credits(x, 0), 15);
        due("the 16th", x.forge(0), 116);
        due("the 17th", x.forge(0), FULL);
        refused("with 16", y -> forge(y, 0, 13), y -> y.forge(0), FULL);
        refused("with 17", y -> {
            forge(y, 0, 13);
            y.setLane(0, 0, 4);
        }, y -> y.forge(0), FULL);
        refused("with 21", y -> {
            forge(y, 0, 13);
            y.setLane(0, 0, 8);
        }, y -> y.forge(0), FULL);
    }

    // ---- repair

    static void repairsOneLane() {
        ChairCredits x = edge(REPAIR, "Repairs a lane.");
        x.forge(1);
        x.forge(2);
        x.repair(1);
        due("credits of it", credits(x, 1), 3);
        due("credits of another", credits(x, 2), 4);
    }

    static void repairIsAnAct() {
        edge(REPAIR, "This is an act.");
        isAct("repair() of one too many", x -> x.forge(0), x -> x.repair(0));
        isAct("repair() of one missing", x -> dry(x, 0), x -> x.repair(0));
    }

    static void repairOutputs() {
        ChairCredits x = edge(REPAIR, "`output`: 0 to 3");
        x.forge(0);
        forge(x, 3, 2);
        due("0", x.repair(0), 99);
        due("3", x.repair(3), 98);
    }

    static void repairAnswersTheMissing() {
        ChairCredits x = edge(REPAIR, "Returns how many credits were missing, plus 100;");
        dry(x, 0);
        due("one", x.repair(0), 101);
        x = new ChairCredits();
        x.setLane(0, 0, 1);
        forge(x, 0, 15);
        due("fifteen too many", x.repair(0), 85);
        due("credits", credits(x, 0), 1);
    }

    static void repairUnknown() {
        edge(REPAIR, "UNKNOWN;");
        for (int output : NO_PORT) {
            refused("repair(" + output + ")", x -> x.repair(output), UNKNOWN);
        }
    }

    static void nothingToRepair() {
        ChairCredits x = edge(REPAIR, "NONE if none was missing or too many.");
        refused("of a new one", y -> { }, y -> y.repair(0), NONE);
        refused("below 0, with none missing", y -> indebt(y, 0), y -> y.repair(0), NONE);
        refused("repaired already", y -> {
            y.forge(0);
            y.repair(0);
        }, y -> y.repair(0), NONE);
        refused("one forged, and one lost", y -> {
            dry(y, 0);
            y.forge(0);
        }, y -> y.repair(0), NONE);
        x.forge(0);
        due("one too many is not NONE", x.repair(0), 99);
    }
}
