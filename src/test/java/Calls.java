import java.util.Map;
import java.util.TreeMap;
import java.util.function.Consumer;
import java.util.function.ToIntFunction;

/** What the tests share: the document's errors, and runs of calls that many of them make. */
class Calls {
    static final int UNKNOWN = ChairCredits.UNKNOWN;
    static final int BAD_VALUE = ChairCredits.BAD_VALUE;
    static final int FULL = ChairCredits.FULL;
    static final int NOT_POSSIBLE = ChairCredits.NOT_POSSIBLE;
    static final int NONE = ChairCredits.NONE;

    static final int LEAST = Integer.MIN_VALUE;
    static final int MOST = Integer.MAX_VALUE;
    static final int[] NO_PORT = {-1, 4, LEAST, MOST};

    private static final int UNDO_PROBES = 5;
    private static final int PROBES = UNDO_PROBES + 2;

    Calls() {
    }

    static ChairCredits fresh(String title) {
        Check.title(title);
        return new ChairCredits();
    }

    /** A new object for the test of these words of the document. */
    static ChairCredits edge(String section, String words) {
        Document.quote(section, words);
        return fresh(section + ", \"" + words + "\"");
    }

    static void due(String call, long got, long want) {
        Check.due(call, got, want);
    }

    static void arrive(ChairCredits x, int input, int output, int times) {
        for (int i = 0; i < times; i++) {
            x.arrive(input, output);
        }
    }

    static void forge(ChairCredits x, int output, int times) {
        for (int i = 0; i < times; i++) {
            x.forge(output);
        }
    }

    static void undo(ChairCredits x, int times) {
        for (int i = 0; i < times; i++) {
            x.undo();
        }
    }

    static void type(ChairCredits x, String text) {
        x.clearText();
        for (char c : text.toCharArray()) {
            x.type(c);
        }
    }

    static int read(ChairCredits x, String text) {
        type(x, text);
        return x.readArrivals();
    }

    /** Sets the chairs, the period and the delay. */
    static void lay(ChairCredits x, int output, int chairs, int period, int delay) {
        x.setLane(output, 0, chairs);
        x.setLane(output, 1, period);
        x.setLane(output, 2, delay);
    }

    static int credits(ChairCredits x, int output) {
        return x.lane(output, 3) - 100;
    }

    /** The lane has one chair then, and its credit is lost; a tick passes, and the packet 0 is gone. */
    static void dry(ChairCredits x, int output) {
        x.setLane(output, 0, 1);
        x.setLane(output, 1, 1);
        x.arrive(3, output);
        x.pass(1);
        x.lose(output);
    }

    /** Three credits are on their way to the lane, in the ticks 6, 7 and 8, and it has one chair: -2 credits. */
    static void indebt(ChairCredits x, int output) {
        lay(x, output, 3, 1, 6);
        read(x, "0>" + output + "*3");
        x.pass(3);
        x.setLane(output, 0, 1);
    }

    /** From the tick 0 to the tick 9999, in 200 calls. */
    static void passToTheEnd(ChairCredits x) {
        for (int i = 0; i < 199; i++) {
            x.pass(50);
        }
        x.pass(49);
    }

    /** Something of all that a state has, in 66 calls. */
    static void busy(ChairCredits x) {
        x.set(0, 1);
        x.setLane(1, 1, 1);
        x.setLane(1, 2, 6);
        x.setLane(2, 0, 1);
        read(x, "0>1*6,1>2*5,2>1*3,2>3*3,3>2*2");
        x.forge(2);
        x.pass(5);
        x.lose(1);
        x.arrive(3, 0);
    }

    /** A busy box with a snapshot that is not its state, four states that differ, and a text that can be read. */
    static void crowded(ChairCredits x) {
        busy(x);
        x.keep();
        x.forge(3);
        x.arrive(3, 1);
        x.pass(1);
        x.set(1, 13);
        type(x, "0>3,3>0");
    }

    /** All that is told of a state, by the calls that tell it; some 250 calls at most. */
    static Map<String, Integer> told(ChairCredits x) {
        Map<String, Integer> all = new TreeMap<>();
        for (int port = 0; port < 4; port++) {
            tellLane(x, port, all);
            tellInput(x, port, all);
        }
        for (int what = 0; what <= 10; what++) {
            all.put("count(" + what + ")", x.count(what));
        }
        return all;
    }

    private static void tellLane(ChairCredits x, int output, Map<String, Integer> all) {
        for (int what = 0; what <= 13; what++) {
            all.put("lane(" + output + ", " + what + ")", x.lane(output, what));
        }
        int seated = x.lane(output, 4);
        for (int place = 0; place < seated; place++) {
            all.put("seated(" + output + ", " + place + ")", x.seated(output, place));
        }
        int onTheWay = x.lane(output, 5);
        for (int rank = 0; rank < onTheWay; rank++) {
            all.put("onTheWay(" + output + ", " + rank + ")", x.onTheWay(output, rank));
        }
    }

    private static void tellInput(ChairCredits x, int input, Map<String, Integer> all) {
        for (int what = 0; what <= 3; what++) {
            all.put("input(" + input + ", " + what + ")", x.input(input, what));
        }
        int size = x.input(input, 0);
        for (int place = 0; place < size; place++) {
            for (int what = 0; what <= 2; what++) {
                all.put("packet(" + input + ", " + place + ", " + what + ")", x.packet(input, place, what));
            }
        }
    }

    static String state(ChairCredits x) {
        return told(x).toString();
    }

    /** The call answers so in a crowded box, and changes nothing. */
    static void refused(String name, ToIntFunction<ChairCredits> call, int answer) {
        refused(name, Calls::crowded, call, answer);
    }

    /**
     * The call answers so behind what was ahead, and a box that hears it tells
     * the same then as one that does not: of its state, its text, its snapshot
     * and of each state of its history. Each is asked of a box of its own: all
     * of them would be too many calls for one.
     */
    static void refused(String name, Consumer<ChairCredits> ahead, ToIntFunction<ChairCredits> call, int answer) {
        for (int probe = 0; probe < PROBES; probe++) {
            ChairCredits heard = new ChairCredits();
            ahead.accept(heard);
            due(name, call.applyAsInt(heard), answer);
            ChairCredits spared = new ChairCredits();
            ahead.accept(spared);
            String told = probed(heard, probe);
            Check.holds(name + " changes nothing, probe " + probe, told.equals(probed(spared, probe)));
        }
    }

    private static String probed(ChairCredits x, int probe) {
        String sizes = x.count(11) + " " + x.count(12) + " ";
        if (probe < UNDO_PROBES) {
            undo(x, probe);
            return sizes + state(x);
        }
        int answer = probe == UNDO_PROBES ? x.restore() : x.readArrivals();
        return sizes + answer + " " + state(x);
    }

    /** The call is an act: it records one state, that which was before it. */
    static void isAct(String name, Consumer<ChairCredits> ahead, Consumer<ChairCredits> act) {
        ChairCredits x = new ChairCredits();
        ahead.accept(x);
        int states = x.count(11);
        String before = state(x);
        act.accept(x);
        due(name + " records a state", x.count(11), Math.min(states + 1, 4));
        x.undo();
        Check.holds("undo of " + name, before.equals(state(x)));
    }
}
