/** The edges of a tick. */
final class TickEdges extends Calls {
    private static final String TICK = "A TICK";

    private TickEdges() {
    }

    static void tickAtFirst() {
        ChairCredits x = edge(TICK, "the tick is 0 at first.");
        due("tick", x.count(0), 0);
        due("tick of the snapshot", x.keep(), 0);
        x.arrive(0, 0);
        due("tick of arrival", x.packet(0, 0, 2), 0);
    }

    static void tickGrowsBy1() {
        ChairCredits x = edge(TICK, "Then the tick becomes greater by 1.");
        x.pass(1);
        due("one tick", x.count(0), 1);
        x.arrive(0, 0);
        due("tick of arrival", x.packet(0, 0, 2), 1);
        x.pass(50);
        due("fifty ticks", x.count(0), 51);
    }

    static void modeAtFirst() {
        ChairCredits x = edge(TICK, "The mode is 0 at first.");
        due("mode", x.count(8), 0);
        dry(x, 0);
        read(x, "0>0,0>1");
        due("the head blocks", x.next(1), NONE);
    }

    // ---- 1: credits come

    static void creditComesInItsTick() {
        ChairCredits x = edge(TICK, "credits on their way back that come in the tick t come.");
        lay(x, 0, 1, 1, 6);
        read(x, "0>0*2");
        x.pass(1);
        due("none is sent in the ticks 1 to 5", x.pass(5), 0);
        due("it has not come", x.lane(0, 3), 100);
        due("the tick", x.count(0), 6);
        due("it comes in the tick 6, ahead of the sending", x.pass(1), 1);
    }

    static void allThatComeInATickCome() {
        ChairCredits x = edge(TICK, "all credits on their way back");
        x.setLane(2, 1, 1);
        read(x, "0>2*2");
        x.pass(1);
        x.setLane(2, 2, 1);
        x.pass(1);
        due("the first comes in the next tick", x.onTheWay(2, 0), 1);
        due("the second, too", x.onTheWay(2, 1), 1);
        x.pass(1);
        due("none is left", x.lane(2, 5), 0);
        due("credits", x.lane(2, 3), 103);
    }

    static void sixThatComeInATick() {
        ChairCredits x = edge(TICK, "all credits on their way back that come in the tick t come.");
        lay(x, 1, 8, 1, 6);
        read(x, "0>1*6");
        for (int delay = 6; delay >= 1; delay--) {
            x.setLane(1, 2, delay);
            x.pass(1);
        }
        for (int rank = 0; rank < 6; rank++) {
            due("in the next tick", x.onTheWay(1, rank), 1);
        }
        due("credits ahead of it", x.lane(1, 3), 102);
        x.pass(1);
        due("none is left", x.lane(1, 5), 0);
        due("credits", x.lane(1, 3), 108);
    }

    static void creditsComeAtEachOutput() {
        ChairCredits x = edge(TICK, "At each output, from 0 on: all credits");
        for (int output = 0; output < 4; output++) {
            lay(x, output, 3, 1, 1);
        }
        read(x, "0>0,1>1,2>2,3>3");
        x.pass(1);
        for (int output = 0; output < 4; output++) {
            due("credits", x.lane(output, 3), 102);
        }
        x.pass(1);
        for (int output = 0; output < 4; output++) {
            due("credits", x.lane(output, 3), 103);
        }
    }

    // ---- 2: the watch

    static void noWatchAtFirst() {
        ChairCredits x = edge(TICK, "If there is a watch (a number of ticks, at first 0: none)");
        due("watch", x.count(9), 0);
        x.forge(0);
        x.pass(50);
        x.pass(50);
        due("nothing is repaired", x.lane(0, 3), 104);
    }

    static void watchInTicksDivisible() {
        ChairCredits x = edge(TICK, "and t is divisible by it");
        int[] watches = {1, 2, 7, 59, 60};
        for (int watch : watches) {
            x = new ChairCredits();
            x.set(1, watch);
            for (int tick = 0; tick <= 121; tick++) {
                x.forge(3);
                x.pass(1);
                boolean repairs = tick % watch == 0;
                due("credits with the watch " + watch + " behind the tick " + tick, x.lane(3, 3), repairs ? 103 : 104);
                x.repair(3);
            }
        }
    }

    static void watchInTheTick0() {
        ChairCredits x = edge(TICK, "If there is a watch");
        x.set(1, 60);
        x.forge(1);
        x.pass(1);
        due("0 is divisible by 60", x.lane(1, 3), 103);
        x.forge(1);
        x.pass(50);
        x.pass(9);
        due("1 to 59 are not", x.lane(1, 3), 104);
        x.pass(1);
        due("60 is", x.lane(1, 3), 103);
    }

    static void watchRepairsEachLane() {
        ChairCredits x = edge(TICK, "each lane is repaired.");
        for (int output = 0; output < 4; output++) {
            forge(x, output, output + 1);
        }
        x.set(1, 1);
        x.pass(1);
        for (int output = 0; output < 4; output++) {
            due("too many at " + output, x.lane(output, 3), 103);
        }
        x = new ChairCredits();
        dry(x, 0);
        dry(x, 3);
        x.set(1, 1);
        x.pass(1);
        due("one was missing at 0", x.lane(0, 3), 101);
        due("one was missing at 3", x.lane(3, 3), 101);
    }

    // ---- the order

    static void creditsComeAheadOfTheWatch() {
        ChairCredits x = edge(TICK, "the following happens, one after the other:");
        lay(x, 0, 1, 1, 2);
        x.arrive(0, 0);
        x.pass(1);
        x.set(1, 2);
        x.pass(2);
        due("the credit that comes is not missing", x.lane(0, 3), 101);
        due("nor are there too many", x.lane(0, 6), 100);
    }

    static void watchAheadOfTheSending() {
        ChairCredits x = edge(TICK, "When the tick t passes");
        dry(x, 0);
        x.arrive(0, 0);
        x.set(1, 1);
        due("the repaired credit is used", x.pass(1), 1);
        x = new ChairCredits();
        lay(x, 0, 1, 9, 6);
        read(x, "0>0*2");
        x.pass(1);
        x.forge(0);
        x.set(1, 1);
        due("the forged credit is gone", x.pass(1), 0);
    }

    static void takingBehindTheSending() {
        ChairCredits x = edge(TICK, "one after the other");
        lay(x, 0, 1, 2, 1);
        x.forge(0);
        read(x, "0>0*2");
        x.pass(1);
        x.pass(1);
        due("the chair was taken as the second came", x.lane(0, 10), 1);
        due("and is free then", x.lane(0, 4), 0);
        x = new ChairCredits();
        lay(x, 0, 1, 1, 1);
        x.arrive(0, 0);
        x.pass(1);
        due("a packet is seated and taken in one tick", x.lane(0, 9), 1);
    }

    // ---- 3: sending

    static void creditsAbove0() {
        ChairCredits x = edge(TICK, "if it has a credit (its credits are above 0)");
        indebt(x, 2);
        x.arrive(1, 2);
        for (int credits = -2; credits <= 0; credits++) {
            due("credits", credits(x, 2), credits);
            due("next with the credits " + credits, x.next(2), NONE);
            x.forge(2);
        }
        due("credits", credits(x, 2), 1);
        due("next with the credits 1", x.next(2), 3);
        due("sent with the credits 1", x.pass(1), 1);
        due("the credits are 0", credits(x, 2), 0);
    }

    static void aPacketIfAnyCanBe() {
        ChairCredits x = edge(TICK, "a packet is sent to it, if any can be");
        due("none is there", x.pass(1), 0);
        read(x, "0>1,1>1,2>1,3>1");
        due("one to an output in a tick", x.pass(1), 1);
        due("one to an output in a tick", x.pass(1), 1);
        due("left", x.count(2), 2);
    }

    static void oneToAnOutputHoweverManyCredits() {
        ChairCredits x = edge(TICK, "a packet is sent to it");
        for (int output = 0; output < 4; output++) {
            x.setLane(output, 0, 8);
            forge(x, output, 8);
        }
        x.set(0, 1);
        read(x, "0>1,1>1,2>1,3>1");
        for (int sent = 1; sent <= 4; sent++) {
            due("one in each tick", x.pass(1), 1);
            due("sent so far", x.lane(1, 8), sent);
        }
    }

    static void anInputSendsOnceInTheMode0() {
        ChairCredits x = edge(TICK, "each input that has not sent in this tick offers");
        read(x, "2>0,2>1,2>2");
        for (int output = 0; output < 3; output++) {
            due("its head", x.next(output), output);
            due("one in each tick", x.pass(1), 1);
        }
    }

    static void anInputSendsOnce() {
        ChairCredits x = edge(TICK, "each input that has not sent in this tick offers a packet for this output");
        x.set(0, 1);
        read(x, "1>3,1>2,1>1,1>0");
        for (int output = 0; output < 4; output++) {
            due("next(" + output + ")", x.next(output), output == 0 ? 3 : NONE);
        }
        due("one is sent", x.pass(1), 1);
        due("to the output 0", x.lane(0, 8), 1);
        x.arrive(2, 2);
        due("two are sent", x.pass(1), 2);
        due("by 1 to 1", x.lane(1, 8), 1);
        due("by 2 to 2, since 1 has sent", x.input(2, 2), 1);
        due("its packet for 2 is there yet", x.packet(1, 1, 0), 1);
    }

    static void fourAreSentInATick() {
        ChairCredits x = edge(TICK, "from 0 on: if it has a credit");
        read(x, "0>3,1>2,2>1,3>0");
        due("sent", x.pass(1), 4);
        due("left", x.count(2), 0);
    }

    static void mode0OffersTheFirst() {
        ChairCredits x = edge(TICK, "in the mode 0 the first one of its queue, if that is for this output");
        dry(x, 0);
        read(x, "1>2,1>1,2>0,2>1,2>2");
        due("the first", x.next(2), 1);
        due("not the second", x.next(1), NONE);
        due("not behind a head that can't go", x.next(3), NONE);
        x.pass(1);
        due("the second stands first then", x.next(1), 2);
        due("the head at the input 2 waits yet", x.packet(2, 0, 0), 3);
    }

    static void mode1OffersFromAnyPlace() {
        ChairCredits x = edge(TICK, "in the mode 1 the first one in its queue that is for this output, wherever it stands.");
        dry(x, 0);
        x.set(0, 1);
        read(x, "1>0*7,1>3");
        due("the last place of a full queue", x.next(3), 8);
        due("is sent", x.pass(1), 1);
        due("the others stay", x.packet(1, 6, 0), 7);
        read(x, "2>0,2>3*2");
        due("the first of two", x.next(3), 10);
    }

    static void turnOrTheNextBehind() {
        ChairCredits x = edge(TICK, "Of the inputs that offer, the one is chosen whose turn it is, or the next one behind that");
        choice(0, "0>2,1>2,2>2,3>2", 0);
        choice(1, "0>2,1>2,2>2,3>2", 1);
        choice(2, "0>2,1>2,2>2,3>2", 2);
        choice(0, "2>2,3>2", 2);
        choice(1, "0>2,3>2", 3);
        choice(1, "2>2,3>2,0>2", 2);
        choice(3, "3>2", 3);
        due("a turn without offers stays", x.lane(2, 7), 0);
    }

    static void behind3Comes0() {
        ChairCredits x = edge(TICK, "(behind the input 3 comes 0)");
        choice(3, "0>2,1>2,2>2", 0);
        choice(3, "1>2,2>2", 1);
        choice(3, "2>2", 2);
        choice(3, "0>2,3>2", 3);
        choice(2, "0>2,1>2", 0);
        choice(2, "1>2", 1);
        choice(1, "0>2", 0);
        x.arrive(3, 2);
        x.pass(1);
        due("the turn behind 3", x.lane(2, 7), 0);
    }

    /** With the turn at the output 2, and the text's arrivals, this input is chosen. */
    private static void choice(int turn, String text, int chosen) {
        ChairCredits x = new ChairCredits();
        x.arrive((turn + 3) % 4, 2);
        x.pass(1);
        due("turn", x.lane(2, 7), turn);
        read(x, text);
        x.pass(1);
        String from = " of " + text + " with the turn " + turn;
        due("sent by " + chosen + from, x.input(chosen, 2), chosen == (turn + 3) % 4 ? 2 : 1);
        due("turn behind it" + from, x.lane(2, 7), chosen == 3 ? 0 : chosen + 1);
    }

    static void whatTheSendingChanges() {
        ChairCredits x = edge(TICK,
            "The packet leaves the queue, the credits become less by 1, and it is the turn of the input behind the chosen one.");
        for (int input = 0; input < 4; input++) {
            x.arrive(input, input);
        }
        x.pass(1);
        for (int port = 0; port < 4; port++) {
            due("in the queue", x.input(port, 0), 0);
            due("credits", x.lane(port, 3), 102);
            due("turn", x.lane(port, 7), (port + 1) % 4);
        }
        x.pass(1);
        for (int port = 0; port < 4; port++) {
            due("the turn stays if none is sent", x.lane(port, 7), (port + 1) % 4);
        }
    }

    static void seatedWhileChairsAreFree() {
        ChairCredits x = edge(TICK, "If fewer packets are seated than there are chairs, the packet is seated;");
        for (int chairs = 1; chairs <= 8; chairs++) {
            x = new ChairCredits();
            lay(x, 1, chairs, 9, 6);
            arrive(x, 0, 1, chairs);
            due("sent", x.pass(chairs), chairs);
            due("all are seated on " + chairs, x.lane(1, 4), chairs);
            due("the last", x.seated(1, chairs - 1), chairs - 1);
            due("spilled", x.lane(1, 10), 0);
        }
    }

    static void spilledIfNoChairIsFree() {
        ChairCredits x = edge(TICK, "otherwise it is spilled (it is gone).");
        for (int chairs = 1; chairs <= 7; chairs++) {
            x = new ChairCredits();
            lay(x, 1, chairs, 9, 6);
            x.forge(1);
            arrive(x, 0, 1, chairs + 1);
            due("sent", x.pass(chairs + 1), chairs + 1);
            due("seated on " + chairs, x.lane(1, 4), chairs);
            due("none behind them", x.seated(1, chairs), NONE);
            due("spilled", x.lane(1, 10), 1);
            due("it took a credit", x.lane(1, 3), 100);
            due("which is missing", x.lane(1, 6), 100);
            due("it waits nowhere", x.count(2), 0);
        }
    }

    static void spilledBesideEightChairs() {
        ChairCredits x = edge(TICK, "otherwise it is spilled");
        lay(x, 3, 8, 9, 6);
        x.forge(3);
        arrive(x, 2, 3, 8);
        x.arrive(0, 3);
        due("sent", x.pass(9), 9);
        due("spilled in the tick 8", x.lane(3, 10), 1);
        due("taken in it", x.lane(3, 9), 1);
        due("the last one seated", x.seated(3, 6), 6);
        due("none behind it", x.seated(3, 7), NONE);
    }

    // ---- 4: taking

    static void takenInTicksOfThePeriod() {
        ChairCredits x = edge(TICK, "if t + 1 is divisible by its period");
        for (int period = 1; period <= 9; period++) {
            x = new ChairCredits();
            lay(x, 0, 3, period, 6);
            arrive(x, 0, 0, 3);
            for (int ticks = 1; ticks <= 3 * period; ticks++) {
                x.pass(1);
                due("taken with the period " + period + " in " + ticks + " ticks", x.lane(0, 9), ticks / period);
            }
        }
    }

    static void takenIfAnyIsSeated() {
        ChairCredits x = edge(TICK, "and any packet is seated");
        x.setLane(0, 1, 1);
        x.pass(5);
        due("none is taken", x.lane(0, 9), 0);
        due("no credit goes", x.lane(0, 5), 0);
        x.arrive(0, 0);
        x.pass(1);
        due("one is taken as soon as it sits", x.lane(0, 9), 1);
        x.pass(1);
        due("and none behind it", x.lane(0, 9), 1);
        due("one credit is on its way", x.lane(0, 5), 1);
    }

    static void theFirstSeatedIsTaken() {
        ChairCredits x = edge(TICK, "the one that was seated first is taken");
        lay(x, 0, 3, 4, 6);
        read(x, "2>0,1>0,0>0");
        x.pass(3);
        due("seated first", x.seated(0, 0), 2);
        x.pass(1);
        due("the second is first then", x.seated(0, 0), 1);
        due("the third is second", x.seated(0, 1), 0);
        due("no third", x.seated(0, 2), NONE);
    }

    static void creditComesBehindTheDelay() {
        ChairCredits x = edge(TICK, "a credit is on its way back: it comes in the tick t + delay.");
        for (int delay = 1; delay <= 6; delay++) {
            x = new ChairCredits();
            lay(x, 0, 1, 1, delay);
            read(x, "0>0*2");
            x.pass(1);
            due("in so many ticks", x.onTheWay(0, 0), delay);
            for (int tick = 1; tick < delay; tick++) {
                due("sent in the tick " + tick + " with the delay " + delay, x.pass(1), 0);
            }
            due("sent in the tick " + delay, x.pass(1), 1);
        }
    }

    // ---- 5: blocked inputs

    static void blockedIfItHasAndHasNotSent() {
        ChairCredits x = edge(TICK, "Each input that has a packet, and has not sent in this tick, is blocked for a tick.");
        read(x, "0>0,1>0*2,3>1*2");
        x.pass(1);
        due("0 has sent its last one", x.input(0, 1), 0);
        due("1 has waited", x.input(1, 1), 1);
        due("2 has none", x.input(2, 1), 0);
        due("3 has sent, and has another", x.input(3, 1), 0);
        x.pass(2);
        due("1 has sent in each of these", x.input(1, 1), 1);
        due("in all", x.count(7), 1);
        dry(x, 2);
        x.arrive(2, 2);
        x.pass(50);
        due("each tick counts", x.input(2, 1), 50);
    }
}
