/** Each promise of the document by itself: ordinary inputs, its edges, wrong inputs. */
public final class PromiseTest extends Calls {
    private PromiseTest() {
    }

    public static void main(String[] args) {
        newObject();
        setLane();
        setLaneWrong();
        set();
        arrive();
        readArrivals();
        faultsOfTexts();
        pass();
        turns();
        heads();
        spilling();
        takingAndCredits();
        watch();
        lose();
        forge();
        repair();
        type();
        clearText();
        undo();
        whatIsRecorded();
        whatIsNotRecorded();
        keep();
        restore();
        lane();
        stuck();
        seated();
        onTheWay();
        input();
        packet();
        next();
        leavesIn();
        wouldSend();
        count();
        tickLimit();
        Check.end();
    }

    private static void newObject() {
        ChairCredits x = fresh("1 new object");
        int[] lane = {3, 2, 2, 103, 0, 0, 100, 0, 0, 0, 0, 0, 0, 0};
        int[] input = {0, 0, 0, NONE};
        for (int port = 0; port < 4; port++) {
            for (int what = 0; what < lane.length; what++) {
                due("lane(" + port + ", " + what + ")", x.lane(port, what), lane[what]);
            }
            for (int what = 0; what < input.length; what++) {
                due("input(" + port + ", " + what + ")", x.input(port, what), input[what]);
            }
        }
        for (int what = 0; what <= 12; what++) {
            due("count(" + what + ")", x.count(what), 0);
        }
        due("restore", x.restore(), NONE);
        due("undo", x.undo(), NONE);
    }

    private static void setLane() {
        ChairCredits x = fresh("2 setLane");
        int[] previous = {3, 2, 2};
        int[] most = {8, 9, 6};
        for (int what = 0; what < 3; what++) {
            due("same", x.setLane(3, what, previous[what]), NONE);
            due("to the most", x.setLane(3, what, most[what]), previous[what]);
            due("the most told", x.lane(3, what), most[what]);
            due("the most again", x.setLane(3, what, most[what]), NONE);
            due("to 1", x.setLane(3, what, 1), most[what]);
            due("1 told", x.lane(3, what), 1);
            due("another lane", x.lane(2, what), previous[what]);
        }
        due("credits follow the chairs", x.lane(3, 3), 101);
        due("other credits", x.lane(2, 3), 103);
        x.setLane(3, 0, 6);
        due("credits with 6 chairs", x.lane(3, 3), 106);
        seatTwo(x = fresh("2 setLane with packets seated"));
        due("too few", x.setLane(1, 0, 1), NOT_POSSIBLE);
        due("period 1", x.setLane(1, 1, 1), 9);
        x.undo();
        due("just enough", x.setLane(1, 0, 2), 3);
        due("credits", x.lane(1, 3), 100);
        due("as it is", x.setLane(1, 0, 2), NONE);
        due("delay with packets seated", x.setLane(1, 2, 1), 2);
    }

    /** Two packets on chairs of the lane 1, which takes none before the tick 8 passes. */
    private static void seatTwo(ChairCredits x) {
        x.setLane(1, 1, 9);
        x.arrive(0, 1);
        x.arrive(1, 1);
        x.pass(2);
    }

    private static void setLaneWrong() {
        ChairCredits x = fresh("2 setLane wrong");
        for (int port : NO_PORT) {
            due("output " + port, x.setLane(port, 0, 1), UNKNOWN);
            due("output " + port + " and all else", x.setLane(port, 3, 0), UNKNOWN);
        }
        int[] most = {8, 9, 6};
        for (int what = 0; what < 3; what++) {
            due("value 0", x.setLane(0, what, 0), BAD_VALUE);
            due("value too much", x.setLane(0, what, most[what] + 1), BAD_VALUE);
            due("least value", x.setLane(0, what, Integer.MIN_VALUE), BAD_VALUE);
        }
        due("what -1", x.setLane(0, -1, 1), BAD_VALUE);
        due("what 3", x.setLane(0, 3, 1), BAD_VALUE);
        due("what 3, value -1", x.setLane(0, 3, -1), BAD_VALUE);
        due("history", x.count(11), 0);
        seatTwo(x = fresh("2 setLane wrong"));
        due("BAD_VALUE ahead of NOT_POSSIBLE", x.setLane(1, 0, 0), BAD_VALUE);
    }

    private static void set() {
        ChairCredits x = fresh("3 set");
        due("mode 0", x.set(0, 0), NONE);
        due("mode 1", x.set(0, 1), 0);
        due("mode told", x.count(8), 1);
        due("mode 1 again", x.set(0, 1), NONE);
        due("mode back", x.set(0, 0), 1);
        due("watch 0", x.set(1, 0), NONE);
        due("watch 60", x.set(1, 60), 0);
        due("watch told", x.count(9), 60);
        due("watch 60 again", x.set(1, 60), NONE);
        due("watch 1", x.set(1, 1), 60);
        due("mode untouched", x.count(8), 0);
        due("history", x.count(11), 4);
        due("mode 2", x.set(0, 2), BAD_VALUE);
        due("mode -1", x.set(0, -1), BAD_VALUE);
        due("watch 61", x.set(1, 61), BAD_VALUE);
        due("watch -1", x.set(1, -1), BAD_VALUE);
        due("what 2", x.set(2, 0), BAD_VALUE);
        due("what -1", x.set(-1, 1), BAD_VALUE);
        due("what 2, value -1", x.set(2, -1), BAD_VALUE);
        due("watch told", x.count(9), 1);
    }

    private static void arrive() {
        ChairCredits x = fresh("4 arrive");
        for (int i = 0; i < 8; i++) {
            due("arrive", x.arrive(2, i % 4), i);
        }
        due("the ninth", x.arrive(2, 0), FULL);
        due("unknown ahead of full", x.arrive(2, 4), UNKNOWN);
        due("another input", x.arrive(3, 3), 8);
        for (int port : NO_PORT) {
            due("input " + port, x.arrive(port, 0), UNKNOWN);
            due("output " + port, x.arrive(0, port), UNKNOWN);
        }
        due("arrived", x.count(1), 9);
        due("in the queue", x.input(2, 0), 8);
        due("last one", x.packet(2, 7, 0), 7);
        due("its output", x.packet(2, 7, 1), 3);
    }

    private static void readArrivals() {
        ChairCredits x = fresh("5 readArrivals");
        due("several", read(x, "0>1*3,2>0,0>3*2"), 6);
        due("text stays", x.count(12), 15);
        due("one act", x.count(11), 1);
        int[] outputs = {1, 1, 1, 3, 3};
        int[] numbers = {0, 1, 2, 4, 5};
        for (int place = 0; place < 5; place++) {
            due("output at " + place, x.packet(0, place, 1), outputs[place]);
            due("number at " + place, x.packet(0, place, 0), numbers[place]);
        }
        due("number at the input 2", x.packet(2, 0, 0), 3);
        due("too many for the input 0", x.readArrivals(), FULL);
        due("none of them", x.count(2), 6);
        due("numbers go on as if none had come", x.arrive(1, 1), 6);
        due("up to 8", read(x, "0>0*3"), 3);
        due("one more", read(x, "3>0,0>0"), FULL);
        due("the 3 has none", x.input(3, 0), 0);
        due("a fault ahead of FULL", read(x, "0>0*9,"), -106);
        x = fresh("5 readArrivals");
        due("9 at once", read(x, "1>1*9"), FULL);
        due("8 at once", read(x, "1>1*8"), 8);
        due("arrive then", x.arrive(1, 1), FULL);
        x = fresh("5 readArrivals of a long text");
        due("15 arrivals", read(x, "0>0,1>0,2>0,3>0,0>1,1>1,2>1,3>1,0>2,1>2,2>2,3>2,0>3,1>3,2>3"), 15);
        due("the last", x.packet(2, 3, 0), 14);
        x = fresh("5 readArrivals of a text behind a longer one");
        read(x, "1>1*3,2>2*2");
        due("not as often as the longer one said", read(x, "1>1"), 1);
        due("and nothing of its end", x.input(2, 0), 2);
        x = fresh("5 readArrivals in a later tick");
        x.pass(7);
        read(x, "3>2*2");
        due("tick of arrival", x.packet(3, 1, 2), 7);
    }

    private static void faultsOfTexts() {
        ChairCredits x = fresh("5 faults");
        String[] texts = {
            "", "4", "/", "a", ">", ",", "*", "0", "0,", "0>", "0>4", "0>>", "0>,", "0>0,", "0>0*", "0>0*0", "0>0*:",
            "0>0*,", "0>0*9*", "0>0*99", "0>0*9,", "0>01", "0>0>", "0>0 ", " 0>0", "0>0,4>0", "0>0,,", "0>0*1,3>3*1,2=",
            "0>\u01300", "\uffff", "\u0000"};
        int[] faults = {
            0, 0, 0, 0, 0, 0, 0, 1, 1, 2, 2, 2, 2, 4, 4, 4, 4,
            4, 5, 5, 6, 3, 3, 3, 0, 4, 4, 13,
            2, 0, 0};
        for (int i = 0; i < texts.length; i++) {
            due("'" + texts[i] + "'", read(x, texts[i]), -100 - faults[i]);
        }
        String full = "0>0*1,".repeat(10);
        due("ends too early, at 60", read(x, full), -160);
        due("the last sign is wrong", read(x, full.substring(0, 59) + "*"), -159);
        due("nothing came", x.count(1), 0);
        due("nothing is recorded", x.count(11), 0);
    }

    private static void pass() {
        ChairCredits x = fresh("6 pass");
        due("0", x.pass(0), BAD_VALUE);
        due("-1", x.pass(-1), BAD_VALUE);
        due("51", x.pass(51), BAD_VALUE);
        due("most", x.pass(Integer.MAX_VALUE), BAD_VALUE);
        due("tick", x.count(0), 0);
        read(x, "0>0*3,1>0,2>3");
        due("two in the first", x.pass(1), 2);
        due("one in each of the next two, the 3rd and 4th wait for credits", x.pass(2), 2);
        due("the last", x.pass(1), 1);
        due("none", x.pass(50), 0);
        due("tick", x.count(0), 54);
        due("sent", x.count(3), 5);
    }

    private static void turns() {
        ChairCredits x = fresh("6 turns");
        x.setLane(0, 0, 8);
        read(x, "0>0*2,1>0*2,3>0*2");
        int[] turns = {1, 2, 0, 1, 2, 0};
        int[] numbers = {0, 2, 4, 1, 3, 5};
        for (int i = 0; i < 6; i++) {
            due("next " + i, x.next(0), numbers[i]);
            x.pass(1);
            due("turn " + i, x.lane(0, 7), turns[i]);
        }
        due("other lane's turn", x.lane(1, 7), 0);
        x = fresh("6 an input sends once in a tick");
        x.set(0, 1);
        read(x, "1>2,1>0,1>3");
        due("sent", x.pass(1), 1);
        due("to the output 0 first", x.lane(0, 8), 1);
        due("left", x.packet(1, 0, 1), 2);
        due("blocked not", x.input(1, 1), 0);
        x.pass(1);
        due("then to 2", x.lane(2, 8), 1);
        x.pass(1);
        due("then to 3", x.lane(3, 8), 1);
    }

    private static void heads() {
        ChairCredits x = fresh("6 heads that block");
        x.setLane(0, 0, 1);
        x.setLane(0, 1, 9);
        read(x, "0>0*2,0>1,0>2*2");
        due("mode 0", x.pass(4), 1);
        due("head waits", x.packet(0, 0, 0), 1);
        due("blocked", x.input(0, 1), 3);
        x.set(0, 1);
        due("mode 1", x.pass(3), 3);
        due("the head is there yet", x.packet(0, 0, 0), 1);
        due("alone", x.input(0, 0), 1);
        due("blocked no more", x.input(0, 1), 3);
        x.pass(1);
        due("blocked again", x.input(0, 1), 4);
        due("an empty queue is not blocked", x.input(1, 1), 0);
        x = fresh("6 the first for the output");
        x.set(0, 1);
        x.setLane(3, 0, 1);
        x.setLane(3, 1, 9);
        read(x, "2>3*2,2>1,2>3,2>1");
        due("the first for the output 1", x.next(1), 2);
        x.pass(1);
        due("the second for the output 1", x.next(1), 4);
        x.pass(1);
        due("the first for the output 3", x.next(3), 0);
        x.pass(1);
        due("two are left", x.input(2, 0), 2);
        due("those for 3 stay in their order", x.packet(2, 0, 0) * 10 + x.packet(2, 1, 0), 13);
        due("their ticks", x.packet(2, 1, 2), 0);
    }

    private static void spilling() {
        ChairCredits x = fresh("6 spilling");
        x.setLane(1, 0, 2);
        x.setLane(1, 1, 9);
        x.forge(1);
        x.forge(1);
        read(x, "0>1*5");
        due("sent", x.pass(5), 4);
        due("seated", x.lane(1, 4), 2);
        due("spilled", x.lane(1, 10), 2);
        due("spilled are sent", x.lane(1, 8), 4);
        due("sent by the input", x.input(0, 2), 4);
        due("credits", x.lane(1, 3), 100);
        due("first seated", x.seated(1, 0), 0);
        due("second seated", x.seated(1, 1), 1);
    }

    private static void takingAndCredits() {
        ChairCredits x = fresh("6 taking");
        x.setLane(0, 1, 3);
        x.setLane(0, 2, 4);
        read(x, "0>0*2");
        x.pass(2);
        due("two seated", x.lane(0, 4), 2);
        x.pass(1);
        due("the first is taken in the tick 2", x.seated(0, 0), 1);
        due("taken", x.lane(0, 9), 1);
        due("comes in", x.onTheWay(0, 0), 4);
        x.pass(3);
        due("taken", x.lane(0, 9), 2);
        due("the first is on its way yet", x.lane(0, 5), 2);
        due("credits", x.lane(0, 3), 101);
        x.pass(1);
        due("it came in the tick 6", x.lane(0, 3), 102);
        due("on the way", x.onTheWay(0, 0), 3);
        x = fresh("6 seated and taken in one tick, and used as it comes");
        x.setLane(0, 0, 1);
        x.setLane(0, 1, 1);
        x.setLane(0, 2, 1);
        read(x, "0>0*4");
        due("one each tick", x.pass(4), 4);
        due("taken", x.lane(0, 9), 4);
        due("none spilled", x.lane(0, 10), 0);
    }

    private static void watch() {
        ChairCredits x = fresh("6 watch");
        x.set(1, 4);
        x.forge(2);
        x.pass(1);
        due("the tick 0 is divisible", x.lane(2, 3), 103);
        x.forge(2);
        x.pass(3);
        due("the ticks 1 to 3 are not", x.lane(2, 3), 104);
        x.pass(1);
        due("the tick 4 is", x.lane(2, 3), 103);
        x.set(1, 1);
        for (int i = 0; i < 3; i++) {
            x.forge(2);
            x.pass(1);
            due("each tick is divisible by 1", x.lane(2, 3), 103);
        }
        x = fresh("6 watch ahead of the sending, behind the coming");
        x.setLane(0, 0, 1);
        x.setLane(0, 1, 1);
        x.set(1, 2);
        read(x, "0>0");
        x.pass(1);
        due("on its way for the tick 2", x.onTheWay(0, 0), 2);
        x.forge(0);
        x.forge(0);
        read(x, "0>0*4");
        x.pass(1);
        due("too many credits", x.lane(0, 6), 98);
        due("the repair takes it ahead of the sending", x.pass(1), 0);
        due("missing", x.lane(0, 6), 100);
    }

    private static void lose() {
        ChairCredits x = fresh("7 lose");
        for (int port : NO_PORT) {
            due("output " + port, x.lose(port), UNKNOWN);
        }
        due("none", x.lose(2), NOT_POSSIBLE);
        x.setLane(2, 1, 1);
        x.setLane(2, 2, 6);
        read(x, "0>2*3");
        x.pass(3);
        due("first comes in", x.onTheWay(2, 0), 4);
        due("lose", x.lose(2), 2);
        due("the first is lost", x.onTheWay(2, 0), 5);
        due("lost", x.lane(2, 11), 1);
        due("missing", x.lane(2, 6), 101);
        due("lose", x.lose(2), 1);
        due("lose", x.lose(2), 0);
        due("lose", x.lose(2), NOT_POSSIBLE);
        due("lost", x.lane(2, 11), 3);
        x.pass(6);
        due("none comes", x.lane(2, 3), 100);
        due("they can be repaired", x.repair(2), 103);
        due("and are lost ones yet", x.lane(2, 11), 3);
    }

    private static void forge() {
        ChairCredits x = fresh("8 forge");
        for (int port : NO_PORT) {
            due("output " + port, x.forge(port), UNKNOWN);
        }
        for (int credits = 4; credits <= 16; credits++) {
            due("forge", x.forge(1), 100 + credits);
        }
        due("16", x.forge(1), FULL);
        due("credits", x.lane(1, 3), 116);
        due("missing", x.lane(1, 6), 87);
        x.setLane(1, 0, 8);
        due("21", x.forge(1), FULL);
        x.setLane(1, 0, 2);
        due("15", x.forge(1), 116);
        due("another lane", x.forge(0), 104);
    }

    private static void repair() {
        ChairCredits x = fresh("9 repair");
        for (int port : NO_PORT) {
            due("output " + port, x.repair(port), UNKNOWN);
        }
        due("none missing", x.repair(0), NONE);
        x.forge(0);
        x.forge(0);
        due("two too many", x.repair(0), 98);
        due("credits", x.lane(0, 3), 103);
        due("again", x.repair(0), NONE);
        x.setLane(0, 1, 1);
        read(x, "0>0*2");
        x.pass(1);
        x.lose(0);
        x.pass(1);
        due("one missing, one on its way", x.repair(0), 101);
        due("credits", x.lane(0, 3), 102);
        due("history", x.count(11), 4);
        x = fresh("9 repair to below 0");
        x.setLane(0, 1, 1);
        x.setLane(0, 2, 6);
        read(x, "0>0*3");
        x.pass(3);
        x.setLane(0, 0, 1);
        due("credits follow the chairs", x.lane(0, 3), 98);
        due("missing", x.repair(0), NONE);
        x.forge(0);
        due("too many", x.repair(0), 99);
        due("credits below 0", x.lane(0, 3), 98);
        x.arrive(0, 0);
        x.pass(3);
        due("none is sent at -2 nor, in the tick 5, ahead of the second", x.count(3), 3);
        due("nor at 0", x.pass(2), 0);
        due("at 1", x.pass(1), 1);
    }

    private static void type() {
        ChairCredits x = fresh("10 type");
        for (int i = 1; i <= 60; i++) {
            due("type", x.type((char) (i * 1000)), i);
        }
        due("the 61st", x.type('0'), FULL);
        due("length", x.count(12), 60);
        due("no act", x.count(11), 0);
        type(x, "1>2");
        due("each character stands at its place", x.readArrivals(), 1);
        due("input", x.input(1, 3), 2);
    }

    private static void clearText() {
        ChairCredits x = fresh("11 clearText");
        due("empty", x.clearText(), 0);
        type(x, "0>0");
        due("three", x.clearText(), 3);
        due("length", x.count(12), 0);
        due("read", x.readArrivals(), -100);
        due("no act", x.count(11), 0);
        due("type", x.type('3'), 1);
        due("read", x.readArrivals(), -101);
    }

    private static void undo() {
        ChairCredits x = fresh("12 undo");
        due("empty", x.undo(), NONE);
        for (int i = 0; i < 6; i++) {
            x.arrive(0, 0);
        }
        due("at most 4", x.count(11), 4);
        for (int left = 3; left >= 0; left--) {
            due("undo", x.undo(), left);
            due("packets", x.input(0, 0), 2 + left);
        }
        due("empty", x.undo(), NONE);
        due("packets", x.input(0, 0), 2);
        due("numbers go back, too", x.arrive(1, 0), 2);
        x = fresh("12 undo of all that a state has");
        busy(x);
        String before = state(x);
        x.setLane(1, 2, 5);
        x.set(0, 0);
        x.set(1, 7);
        type(x, "3>3*5");
        x.readArrivals();
        for (int left = 3; left >= 0; left--) {
            due("undo", x.undo(), left);
        }
        Check.holds("all as before", before.equals(state(x)));
        due("the text stays", x.count(12), 5);
        x.forge(2);
        x.forge(2);
        x.pass(3);
        x.lose(2);
        due("spilled then", x.lane(2, 10), 2);
        due("lost then", x.lane(2, 11), 1);
        for (int left = 3; left >= 0; left--) {
            due("undo", x.undo(), left);
        }
        Check.holds("all as before", before.equals(state(x)));
    }

    private static void whatIsRecorded() {
        ChairCredits x = fresh("what is recorded");
        x.setLane(0, 1, 1);
        due("setLane", x.count(11), 1);
        x.set(0, 1);
        due("set", x.count(11), 2);
        x.arrive(0, 0);
        due("arrive", x.count(11), 3);
        x.pass(1);
        due("pass", x.count(11), 4);
        due("undo of pass", x.undo(), 3);
        due("tick", x.count(0), 0);
        x.pass(1);
        x.undo();
        x.undo();
        due("undo of arrive", x.count(1), 0);
        x.undo();
        due("undo of set", x.count(8), 0);
        x.undo();
        due("undo of setLane", x.lane(0, 1), 2);
        x = fresh("what is recorded");
        x.setLane(0, 1, 1);
        x.arrive(0, 0);
        x.pass(1);
        x.lose(0);
        due("lose", x.count(11), 4);
        x.undo();
        due("undo of lose", x.lane(0, 5), 1);
        x.forge(0);
        due("forge", x.count(11), 4);
        x.undo();
        due("undo of forge", x.lane(0, 3), 102);
        x.undo();
        x.undo();
        x.forge(0);
        x.repair(0);
        due("repair", x.count(11), 3);
        x.undo();
        due("undo of repair", x.lane(0, 3), 104);
        read(x, "0>0*5");
        due("readArrivals", x.count(11), 3);
        x.undo();
        due("undo of readArrivals", x.count(2), 0);
        x.keep();
        x.restore();
        due("restore", x.count(11), 3);
    }

    private static void whatIsNotRecorded() {
        ChairCredits x = fresh("what is not recorded");
        x.type('x');
        x.clearText();
        x.keep();
        x.next(0);
        x.wouldSend(50, 1);
        x.setLane(0, 0, 3);
        x.setLane(0, 0, 9);
        x.setLane(4, 0, 1);
        x.set(0, 0);
        x.set(2, 0);
        x.arrive(0, 4);
        x.readArrivals();
        x.pass(0);
        x.lose(0);
        x.lose(4);
        x.forge(4);
        x.repair(0);
        x.repair(4);
        x.undo();
        due("history", x.count(11), 0);
        arrive(x, 0, 0, 8);
        x.undo();
        x.arrive(0, 0);
        int states = x.count(11);
        x.undo();
        x.arrive(0, 0);
        x.arrive(0, 0);
        due("FULL records nothing", x.count(11), states);
        x.undo();
        due("and the latest state is that of the last act", x.input(0, 0), 7);
    }

    private static void keep() {
        ChairCredits x = fresh("13 keep");
        due("tick 0", x.keep(), 0);
        x.pass(9);
        due("tick 9", x.keep(), 9);
        due("no act", x.count(11), 1);
        x.pass(9);
        due("restore", x.restore(), 9);
        x.undo();
        due("undo", x.count(0), 18);
        x.undo();
        x.undo();
        due("undo to ahead of the snapshot", x.count(0), 0);
        due("which is no part of the state", x.restore(), 9);
    }

    private static void restore() {
        ChairCredits x = fresh("14 restore");
        due("none", x.restore(), NONE);
        due("nothing is recorded", x.count(11), 0);
        busy(x);
        String before = state(x);
        x.keep();
        forge(x, 2, 3);
        x.pass(3);
        x.lose(2);
        x.pass(17);
        x.setLane(3, 0, 7);
        type(x, "0>0");
        due("restore", x.restore(), 5);
        Check.holds("all as it was kept", before.equals(state(x)));
        due("the text stays", x.count(12), 3);
        due("the history stays, and has one more", x.count(11), 4);
        x.pass(1);
        due("the snapshot stays", x.restore(), 5);
        Check.holds("all as it was kept", before.equals(state(x)));
        x.undo();
        due("undo", x.count(0), 6);
        x.undo();
        x.undo();
        due("undo of the first one", x.lane(3, 0), 7);
        due("its tick", x.count(0), 25);
    }

    private static void lane() {
        ChairCredits x = fresh("15 lane");
        for (int port : NO_PORT) {
            due("output " + port, x.lane(port, 0), UNKNOWN);
            due("output " + port + ", what 14", x.lane(port, 14), UNKNOWN);
        }
        due("what -1", x.lane(0, -1), BAD_VALUE);
        due("what 14", x.lane(0, 14), BAD_VALUE);
        due("what least", x.lane(0, Integer.MIN_VALUE), BAD_VALUE);
        x.setLane(1, 0, 4);
        x.setLane(1, 1, 3);
        x.setLane(1, 2, 6);
        forge(x, 1, 2);
        read(x, "2>1*8,0>2,0>1,3>1*3");
        x.pass(6);
        x.lose(1);
        int[] numbers = {4, 3, 6, 100, 3, 1, 100, 3, 6, 2, 1, 1, 6, 0};
        for (int what = 0; what < numbers.length; what++) {
            due("lane(1, " + what + ")", x.lane(1, what), numbers[what]);
        }
        due("another one's", x.lane(2, 8), 1);
    }

    private static void stuck() {
        ChairCredits x = fresh("15 stuck");
        x.setLane(0, 0, 1);
        x.setLane(0, 1, 4);
        x.setLane(0, 2, 3);
        read(x, "0>0*3");
        due("it has a credit", x.lane(0, 13), 0);
        x.pass(1);
        due("a packet is seated", x.lane(0, 13), 0);
        x.pass(3);
        due("a credit is on its way", x.lane(0, 13), 0);
        x.lose(0);
        due("stuck", x.lane(0, 13), 1);
        due("stuck lanes", x.count(10), 1);
        due("another one is not", x.lane(1, 13), 0);
        x.set(1, 60);
        due("there is a watch", x.lane(0, 13), 0);
        due("stuck lanes", x.count(10), 0);
        x.set(1, 0);
        due("stuck", x.lane(0, 13), 1);
        x.forge(0);
        due("it has a credit", x.lane(0, 13), 0);
        x = fresh("15 stuck only if a packet waits for it");
        x.setLane(0, 0, 2);
        x.setLane(0, 1, 1);
        read(x, "0>0,1>0");
        for (int i = 0; i < 2; i++) {
            x.pass(1);
            x.lose(0);
        }
        due("none waits", x.lane(0, 13), 0);
        read(x, "2>1*2,2>0");
        due("behind others", x.lane(0, 13), 1);
        x.setLane(0, 0, 1);
        due("with credits below 0", x.lane(0, 3), 99);
        due("with credits below 0", x.lane(0, 13), 1);
    }

    private static void seated() {
        ChairCredits x = fresh("16 seated");
        for (int port : NO_PORT) {
            due("output " + port, x.seated(port, -1), UNKNOWN);
        }
        due("place -1", x.seated(0, -1), BAD_VALUE);
        due("least place", x.seated(0, Integer.MIN_VALUE), BAD_VALUE);
        due("none", x.seated(0, 0), NONE);
        x.setLane(0, 0, 8);
        x.setLane(0, 1, 9);
        read(x, "0>0*4,1>0*4");
        x.pass(8);
        int[] numbers = {0, 4, 1, 5, 2, 6, 3, 7};
        for (int place = 0; place < 8; place++) {
            due("place " + place, x.seated(0, place), numbers[place]);
        }
        due("place 8", x.seated(0, 8), NONE);
        due("most", x.seated(0, Integer.MAX_VALUE), NONE);
        x.pass(1);
        due("the first is taken", x.seated(0, 0), 4);
        due("place 7", x.seated(0, 7), NONE);
        x.undo();
        for (int place = 0; place < 8; place++) {
            due("undone, place " + place, x.seated(0, place), numbers[place]);
        }
    }

    private static void onTheWay() {
        ChairCredits x = fresh("17 onTheWay");
        for (int port : NO_PORT) {
            due("output " + port, x.onTheWay(port, -1), UNKNOWN);
        }
        due("rank -1", x.onTheWay(0, -1), BAD_VALUE);
        due("none", x.onTheWay(0, 0), NONE);
        due("most", x.onTheWay(0, Integer.MAX_VALUE), NONE);
        x.setLane(0, 0, 8);
        x.setLane(0, 1, 1);
        x.setLane(0, 2, 6);
        read(x, "0>0*8");
        x.pass(1);
        due("6 ticks", x.onTheWay(0, 0), 6);
        x.setLane(0, 2, 1);
        due("comes as it would have", x.onTheWay(0, 0), 6);
        x.pass(1);
        due("the later one comes earlier", x.onTheWay(0, 0), 1);
        due("the earlier one later", x.onTheWay(0, 1), 5);
        due("no third", x.onTheWay(0, 2), NONE);
        x.setLane(0, 2, 5);
        x.pass(1);
        x.setLane(0, 2, 4);
        x.pass(1);
        due("three on their way", x.lane(0, 5), 3);
        due("first", x.onTheWay(0, 0), 3);
        due("second", x.onTheWay(0, 1), 4);
        due("third", x.onTheWay(0, 2), 4);
        x = fresh("17 onTheWay with as many as can be");
        x.setLane(0, 0, 8);
        x.setLane(0, 1, 1);
        x.setLane(0, 2, 6);
        read(x, "0>0*8");
        x.pass(7);
        due("six", x.lane(0, 5), 6);
        for (int rank = 0; rank < 6; rank++) {
            due("rank " + rank, x.onTheWay(0, rank), rank + 1);
        }
        due("rank 6", x.onTheWay(0, 6), NONE);
    }

    private static void input() {
        ChairCredits x = fresh("18 input");
        for (int port : NO_PORT) {
            due("input " + port, x.input(port, -1), UNKNOWN);
        }
        due("what -1", x.input(0, -1), BAD_VALUE);
        due("what 4", x.input(0, 4), BAD_VALUE);
        due("no packet", x.input(0, 3), NONE);
        read(x, "0>2,1>2,1>3*2");
        due("first is for", x.input(1, 3), 2);
        x.pass(2);
        due("in the queue", x.input(1, 0), 2);
        due("blocked", x.input(1, 1), 1);
        due("not blocked", x.input(0, 1), 0);
        due("sent", x.input(1, 2), 1);
        due("first is for", x.input(1, 3), 3);
        due("none left", x.input(0, 3), NONE);
    }

    private static void packet() {
        ChairCredits x = fresh("19 packet");
        for (int port : NO_PORT) {
            due("input " + port, x.packet(port, -1, 3), UNKNOWN);
        }
        due("place -1", x.packet(0, -1, 0), BAD_VALUE);
        due("what -1", x.packet(0, 0, -1), BAD_VALUE);
        due("what 3 ahead of NONE", x.packet(0, 0, 3), BAD_VALUE);
        due("none", x.packet(0, 0, 0), NONE);
        x.arrive(1, 1);
        x.pass(3);
        x.arrive(0, 3);
        x.arrive(0, 2);
        due("number", x.packet(0, 1, 0), 2);
        due("output", x.packet(0, 1, 1), 2);
        due("tick", x.packet(0, 1, 2), 3);
        due("place 2", x.packet(0, 2, 0), NONE);
        due("most", x.packet(0, Integer.MAX_VALUE, 2), NONE);
        x.pass(1);
        due("it stands first then", x.packet(0, 0, 0), 2);
        x.arrive(0, 1);
        x.pass(1);
        due("one more does", x.packet(0, 0, 0), 3);
        due("with its output", x.packet(0, 0, 1), 1);
        due("and its tick", x.packet(0, 0, 2), 4);
    }

    private static void next() {
        ChairCredits x = fresh("20 next");
        for (int port : NO_PORT) {
            due("output " + port, x.next(port), UNKNOWN);
        }
        due("none", x.next(0), NONE);
        x.set(0, 1);
        read(x, "0>2,0>1,3>2");
        due("the output 1 is ahead", x.next(1), 1);
        due("so that the input 0 has none for 2", x.next(2), 2);
        due("none to 3", x.next(3), NONE);
        due("nothing has happened", x.count(0) + x.count(3) + x.lane(2, 7), 0);
        x = fresh("20 next of heads");
        read(x, "3>2,3>1,0>2");
        due("a head blocks", x.next(1), NONE);
        x.setLane(2, 0, 1);
        x.setLane(2, 1, 1);
        x.pass(1);
        due("no credit yet", x.next(2), NONE);
        due("behind the one that went", x.next(1), NONE);
        x.pass(1);
        due("a credit that comes in that tick", x.next(2), 0);
        x.lose(2);
        due("it is lost", x.next(2), NONE);
        x.set(1, 2);
        due("a watch in that tick", x.next(2), 0);
        x.set(1, 3);
        due("a watch in another", x.next(2), NONE);
        x = fresh("20 next of one that would be spilled");
        x.setLane(1, 0, 1);
        x.forge(1);
        read(x, "0>1*2");
        x.pass(1);
        due("spilled ones are sent ones", x.next(1), 1);
    }

    private static void leavesIn() {
        ChairCredits x = fresh("21 leavesIn");
        for (int port : NO_PORT) {
            due("input " + port, x.leavesIn(port, -1), UNKNOWN);
        }
        due("place -1", x.leavesIn(0, -1), BAD_VALUE);
        due("no packet", x.leavesIn(0, 0), BAD_VALUE);
        read(x, "0>0*4,1>0");
        int[] ticks = {1, 3, 4, 6};
        for (int place = 0; place < 4; place++) {
            due("place " + place, x.leavesIn(0, place), ticks[place]);
        }
        due("input 1", x.leavesIn(1, 0), 2);
        due("place 4", x.leavesIn(0, 4), BAD_VALUE);
        due("most", x.leavesIn(0, Integer.MAX_VALUE), BAD_VALUE);
        due("nothing has happened", x.count(0) + x.count(3) + x.count(7), 0);
        x = fresh("21 leavesIn of a packet that does not leave");
        x.setLane(0, 0, 1);
        x.setLane(0, 1, 1);
        read(x, "0>0*2,0>1");
        x.pass(1);
        x.lose(0);
        due("stuck", x.leavesIn(0, 0), NONE);
        due("behind it", x.leavesIn(0, 1), NONE);
        x.set(0, 1);
        due("not behind it", x.leavesIn(0, 1), 1);
        leavesInLater();
    }

    private static void leavesInLater() {
        for (int passed = 0; passed <= 5; passed++) {
            ChairCredits x = fresh("21 leavesIn, up to 200, in the tick " + passed);
            x.setLane(0, 0, 1);
            x.setLane(0, 1, 9);
            x.setLane(0, 2, 6);
            for (int i = 0; i < passed; i++) {
                x.pass(1);
            }
            read(x, "0>0*8,1>0*8,2>0*8");
            due("the second leaves in the tick 14", x.leavesIn(1, 0), 15 - passed);
            due("the others 9 ticks behind one another", x.leavesIn(2, 0), 24 - passed);
            due("the 22nd", x.leavesIn(0, 7), 195 - passed);
            due("the 23rd", x.leavesIn(1, 7), passed >= 4 ? 204 - passed : NONE);
            due("the 24th", x.leavesIn(2, 7), NONE);
        }
        ChairCredits x = fresh("21 leavesIn with a watch");
        x.setLane(0, 0, 1);
        x.setLane(0, 1, 1);
        read(x, "3>0*2");
        x.pass(1);
        x.lose(0);
        x.pass(50);
        x.pass(10);
        x.set(1, 60);
        due("from the tick 61 on, the tick 120 is the 60th", x.leavesIn(3, 0), 60);
    }

    private static void wouldSend() {
        ChairCredits x = fresh("22 wouldSend");
        due("ticks 0", x.wouldSend(0, 0), BAD_VALUE);
        due("ticks 51", x.wouldSend(51, 0), BAD_VALUE);
        due("mode -1", x.wouldSend(1, -1), BAD_VALUE);
        due("mode 2", x.wouldSend(1, 2), BAD_VALUE);
        x.setLane(0, 0, 1);
        x.setLane(0, 1, 9);
        x.setLane(0, 2, 6);
        read(x, "0>0*2,0>1*2,2>3");
        due("1 tick, mode 0", x.wouldSend(1, 0), 2);
        due("3 ticks, mode 0", x.wouldSend(3, 0), 2);
        due("50 ticks, mode 0", x.wouldSend(50, 0), 5);
        due("3 ticks, mode 1", x.wouldSend(3, 1), 4);
        due("the mode stays", x.count(8), 0);
        due("nothing has happened", x.count(0) + x.count(3), 0);
        x.set(0, 1);
        due("3 ticks, mode 1", x.wouldSend(3, 1), 4);
        due("3 ticks, mode 0", x.wouldSend(3, 0), 2);
        due("the mode stays", x.count(8), 1);
    }

    private static void count() {
        ChairCredits x = fresh("23 count");
        due("what -1", x.count(-1), BAD_VALUE);
        due("what 13", x.count(13), BAD_VALUE);
        due("what least", x.count(Integer.MIN_VALUE), BAD_VALUE);
        busy(x);
        x.set(1, 13);
        type(x, "0>0,");
        int[] numbers = {5, 20, 11, 9, 7, 1, 1, 11, 1, 13, 0, 4, 4};
        for (int what = 0; what <= 12; what++) {
            due("count(" + what + ")", x.count(what), numbers[what]);
        }
    }

    private static void tickLimit() {
        ChairCredits x = fresh("6 the tick's limit");
        for (int i = 0; i < 199; i++) {
            x.pass(50);
        }
        due("tick", x.count(0), 9950);
        due("to 10000", x.pass(50), NOT_POSSIBLE);
        due("51 is a bad value first", x.pass(51), BAD_VALUE);
        due("to 9999", x.pass(49), 0);
        due("one more", x.pass(1), NOT_POSSIBLE);
        due("tick", x.count(0), 9999);
        read(x, "0>0*6");
        due("wouldSend() whatever the tick is", x.wouldSend(50, 0), 6);
        due("leavesIn() whatever the tick is", x.leavesIn(0, 5), 7);
        due("next()", x.next(0), 0);
        due("tick of arrival", x.packet(0, 5, 2), 9999);
    }
}
