/** The edges of setLane() and set(). */
final class SettingsEdges extends Calls {
    private static final String SET_LANE = "Promise 2: setLane";
    private static final String SET = "Promise 3: set";

    private static final int CHAIRS = 0;
    private static final int PERIOD = 1;
    private static final int DELAY = 2;

    private SettingsEdges() {
    }

    /** Two packets on three chairs of the lane 1, which takes none before the tick 8 passes. */
    private static void seatTwo(ChairCredits x) {
        x.setLane(1, PERIOD, 9);
        x.arrive(0, 1);
        x.arrive(1, 1);
        x.pass(2);
    }

    // ---- setLane

    static void setsOneNumberOfOneLane() {
        ChairCredits x = edge(SET_LANE, "Sets a number of a lane.");
        int[] first = {3, 2, 2};
        for (int what = 0; what < 3; what++) {
            x = new ChairCredits();
            x.setLane(2, what, 5);
            for (int output = 0; output < 4; output++) {
                for (int other = 0; other < 3; other++) {
                    due("lane(" + output + ", " + other + ")", x.lane(output, other),
                        output == 2 && other == what ? 5 : first[other]);
                }
                due("credits of " + output, x.lane(output, 3), output == 2 && what == CHAIRS ? 105 : 103);
            }
        }
    }

    static void setLaneIsAnAct() {
        edge(SET_LANE, "This is an act.");
        for (int what = 0; what < 3; what++) {
            int set = what;
            isAct("setLane(3, " + what + ", 1)", x -> x.forge(3), x -> x.setLane(3, set, 1));
        }
    }

    static void setLaneOutputs() {
        ChairCredits x = edge(SET_LANE, "`output`: 0 to 3");
        due("output 0", x.setLane(0, CHAIRS, 4), 3);
        due("output 3", x.setLane(3, CHAIRS, 5), 3);
        due("output 0", x.lane(0, 0), 4);
        due("output 3", x.lane(3, 0), 5);
    }

    static void chairsFrom1To8() {
        ChairCredits x = edge(SET_LANE, "0 for the chairs (1 to 8;");
        due("8", x.setLane(0, CHAIRS, 8), 3);
        due("1", x.setLane(0, CHAIRS, 1), 8);
        due("chairs", x.lane(0, 0), 1);
        for (int value : new int[] {0, 9, -1, LEAST, MOST}) {
            refused("chairs " + value, y -> y.setLane(0, CHAIRS, value), BAD_VALUE);
        }
    }

    static void creditsChangeByAsMuch() {
        ChairCredits x = edge(SET_LANE, "its credits change by as much)");
        x.setLane(0, CHAIRS, 8);
        due("with 8 chairs", credits(x, 0), 8);
        x.setLane(0, CHAIRS, 1);
        due("with 1 chair", credits(x, 0), 1);
        forge(x, 0, 15);
        due("forged", credits(x, 0), 16);
        x.setLane(0, CHAIRS, 8);
        due("above the most that can be forged", credits(x, 0), 23);
        due("missing", x.lane(0, 6), 85);
        due("those of another lane", credits(x, 1), 3);
    }

    static void creditsChangeToBelow0() {
        ChairCredits x = edge(SET_LANE, "its credits change");
        lay(x, 0, 3, 1, 6);
        read(x, "0>0*3");
        x.pass(3);
        due("credits", credits(x, 0), 0);
        x.setLane(0, CHAIRS, 2);
        due("credits", credits(x, 0), -1);
        x.setLane(0, CHAIRS, 1);
        due("credits", credits(x, 0), -2);
        due("none is missing", x.lane(0, 6), 100);
        due("as it is already", x.setLane(0, CHAIRS, 1), NONE);
        due("credits", credits(x, 0), -2);
        x.setLane(0, CHAIRS, 8);
        due("credits", credits(x, 0), 5);
    }

    static void periodFrom1To9() {
        ChairCredits x = edge(SET_LANE, "1 for the period (1 to 9)");
        due("9", x.setLane(0, PERIOD, 9), 2);
        due("1", x.setLane(0, PERIOD, 1), 9);
        due("period", x.lane(0, 1), 1);
        for (int value : new int[] {0, 10, -1, LEAST, MOST}) {
            refused("period " + value, y -> y.setLane(0, PERIOD, value), BAD_VALUE);
        }
    }

    static void delayFrom1To6() {
        ChairCredits x = edge(SET_LANE, "2 for the delay (1 to 6;");
        due("6", x.setLane(0, DELAY, 6), 2);
        due("1", x.setLane(0, DELAY, 1), 6);
        due("delay", x.lane(0, 2), 1);
        for (int value : new int[] {0, 7, -1, LEAST, MOST}) {
            refused("delay " + value, y -> y.setLane(0, DELAY, value), BAD_VALUE);
        }
    }

    static void creditsOnTheirWayComeAsTheyWouldHave() {
        ChairCredits x = edge(SET_LANE, "credits that are on their way already come as they would have)");
        lay(x, 0, 3, 1, 6);
        read(x, "0>0*2");
        x.pass(1);
        x.setLane(0, DELAY, 1);
        due("not sooner", x.onTheWay(0, 0), 6);
        x.pass(1);
        due("the later one comes first", x.onTheWay(0, 0), 1);
        due("the earlier one second", x.onTheWay(0, 1), 5);
        x.pass(1);
        due("one has come", x.lane(0, 3), 102);
        x.setLane(0, DELAY, 6);
        due("not later", x.onTheWay(0, 0), 4);
        x.pass(3);
        due("not yet", x.lane(0, 3), 102);
        x.pass(1);
        due("in its tick", x.lane(0, 3), 103);
    }

    static void setLaneAnswersThePreviousNumber() {
        ChairCredits x = edge(SET_LANE, "Returns the previous one;");
        int[] first = {3, 2, 2};
        for (int what = 0; what < 3; what++) {
            due("from the first", x.setLane(1, what, 6), first[what]);
            due("from 6", x.setLane(1, what, 1), 6);
            due("from 1", x.setLane(1, what, first[what]), 1);
        }
        x.setLane(2, CHAIRS, 4);
        due("another lane's", x.setLane(1, CHAIRS, 7), 3);
    }

    static void setLaneUnknown() {
        edge(SET_LANE, "UNKNOWN;");
        for (int output : NO_PORT) {
            refused("output " + output, x -> x.setLane(output, CHAIRS, 5), UNKNOWN);
        }
    }

    static void setLaneBadWhat() {
        edge(SET_LANE, "BAD_VALUE;");
        for (int what : new int[] {-1, 3, LEAST, MOST}) {
            refused("what " + what, x -> x.setLane(0, what, 1), BAD_VALUE);
        }
    }

    static void moreSeatedThanChairs() {
        ChairCredits x = edge(SET_LANE, "NOT_POSSIBLE (what is 0) if more packets are seated than value;");
        refused("2 seated, 1 chair", SettingsEdges::seatTwo, y -> y.setLane(1, CHAIRS, 1), NOT_POSSIBLE);
        seatTwo(x);
        due("2 seated, 2 chairs", x.setLane(1, CHAIRS, 2), 3);
        x = new ChairCredits();
        lay(x, 1, 8, 9, 6);
        arrive(x, 0, 1, 8);
        x.pass(8);
        due("8 seated, 7 chairs", x.setLane(1, CHAIRS, 7), NOT_POSSIBLE);
        x.pass(1);
        due("7 seated, 6 chairs", x.setLane(1, CHAIRS, 6), NOT_POSSIBLE);
        due("7 seated, 7 chairs", x.setLane(1, CHAIRS, 7), 8);
    }

    static void onlyChairsAreHeldBySeated() {
        ChairCredits x = edge(SET_LANE, "NOT_POSSIBLE (what is 0)");
        seatTwo(x);
        due("2 seated, delay 1", x.setLane(1, DELAY, 1), 2);
        due("2 seated, period 1", x.setLane(1, PERIOD, 1), 9);
        due("another lane's chairs", x.setLane(0, CHAIRS, 1), 3);
    }

    static void setLaneAsItIs() {
        edge(SET_LANE, "NONE if it is so already.");
        int[] first = {3, 2, 2};
        for (int what = 0; what < 3; what++) {
            int same = what;
            refused("as it is, " + what, x -> x.setLane(0, same, first[same]), NONE);
        }
        refused("2 chairs, 2 seated", x -> {
            seatTwo(x);
            x.setLane(1, CHAIRS, 2);
        }, x -> x.setLane(1, CHAIRS, 2), NONE);
    }

    // ---- set

    static void setsTheModeOrTheWatch() {
        ChairCredits x = edge(SET, "Sets the mode, or the watch.");
        x.set(0, 1);
        due("mode", x.count(8), 1);
        due("watch", x.count(9), 0);
        x.set(1, 1);
        x.set(0, 0);
        due("mode", x.count(8), 0);
        due("watch", x.count(9), 1);
    }

    static void setIsAnAct() {
        edge(SET, "This is an act.");
        isAct("set(0, 1)", x -> x.forge(0), x -> x.set(0, 1));
        isAct("set(1, 60)", x -> x.forge(0), x -> x.set(1, 60));
        isAct("set(0, 0)", x -> x.set(0, 1), x -> x.set(0, 0));
        isAct("set(1, 0)", x -> x.set(1, 5), x -> x.set(1, 0));
    }

    static void mode0Or1() {
        ChairCredits x = edge(SET, "0 for the mode (0 or 1)");
        due("1", x.set(0, 1), 0);
        due("0", x.set(0, 0), 1);
        for (int value : new int[] {-1, 2, 60, LEAST, MOST}) {
            refused("mode " + value, y -> y.set(0, value), BAD_VALUE);
        }
    }

    static void watch0To60() {
        ChairCredits x = edge(SET, "1 for the watch (0 to 60)");
        due("60", x.set(1, 60), 0);
        due("1", x.set(1, 1), 60);
        due("0", x.set(1, 0), 1);
        for (int value : new int[] {-1, 61, LEAST, MOST}) {
            refused("watch " + value, y -> y.set(1, value), BAD_VALUE);
        }
    }

    static void setAnswersThePreviousNumber() {
        ChairCredits x = edge(SET, "Returns the previous one;");
        due("mode", x.set(0, 1), 0);
        due("watch", x.set(1, 7), 0);
        due("mode", x.set(0, 0), 1);
        due("watch", x.set(1, 8), 7);
    }

    static void setBadWhat() {
        edge(SET, "BAD_VALUE;");
        for (int what : new int[] {-1, 2, LEAST, MOST}) {
            refused("what " + what, x -> x.set(what, 0), BAD_VALUE);
            refused("what " + what, x -> x.set(what, 1), BAD_VALUE);
        }
    }

    static void setAsItIs() {
        edge(SET, "NONE if it is so already.");
        refused("mode 1", x -> x.set(0, 1), NONE);
        refused("watch 13", x -> x.set(1, 13), NONE);
        refused("mode 0 of a new one", x -> { }, x -> x.set(0, 0), NONE);
        refused("watch 0 of a new one", x -> { }, x -> x.set(1, 0), NONE);
    }

    static void setsTheNewNumber() {
        ChairCredits x = edge(SET, "`value`: the new number");
        x.set(1, 60);
        due("watch", x.count(9), 60);
        x.set(1, 59);
        due("watch", x.count(9), 59);
    }

    static void setsTheNewNumberOfALane() {
        ChairCredits x = edge(SET_LANE, "`value`: the new number");
        for (int what = 0; what < 3; what++) {
            for (int value = 6; value >= 1; value--) {
                x.setLane(0, what, value);
                due("lane(0, " + what + ")", x.lane(0, what), value);
            }
        }
    }
}
