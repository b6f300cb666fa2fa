import java.util.ArrayList;
import java.util.List;

/**
 * The document once more, written for plainness alone and without a look at the
 * class: all packets and credits lie in lists, and a state is copied whole.
 */
final class PlainBox {
    static final int UNKNOWN = -1;
    static final int BAD_VALUE = -2;
    static final int FULL = -3;
    static final int NOT_POSSIBLE = -4;
    static final int NONE = -5;

    /** A packet in a queue or on a chair. */
    record Packet(int number, int input, int output, int since) {
    }

    /** A credit on its way back. */
    record Credit(int output, int comes) {
    }

    /** Everything that undo() brings back. */
    static final class State {
        int tick;
        int mode;
        int watch;
        int arrived;
        int[] chairs = {3, 3, 3, 3};
        int[] period = {2, 2, 2, 2};
        int[] delay = {2, 2, 2, 2};
        int[] credits = {3, 3, 3, 3};
        int[] turn = new int[4];
        int[] sentTo = new int[4];
        int[] taken = new int[4];
        int[] spilled = new int[4];
        int[] lost = new int[4];
        int[] blocked = new int[4];
        int[] sentBy = new int[4];
        List<Packet> waiting = new ArrayList<>();
        List<Packet> seated = new ArrayList<>();
        List<Credit> way = new ArrayList<>();

        State copy() {
            State c = new State();
            c.tick = tick;
            c.mode = mode;
            c.watch = watch;
            c.arrived = arrived;
            c.chairs = chairs.clone();
            c.period = period.clone();
            c.delay = delay.clone();
            c.credits = credits.clone();
            c.turn = turn.clone();
            c.sentTo = sentTo.clone();
            c.taken = taken.clone();
            c.spilled = spilled.clone();
            c.lost = lost.clone();
            c.blocked = blocked.clone();
            c.sentBy = sentBy.clone();
            c.waiting = new ArrayList<>(waiting);
            c.seated = new ArrayList<>(seated);
            c.way = new ArrayList<>(way);
            return c;
        }

        List<Packet> queue(int input) {
            return waiting.stream().filter(p -> p.input() == input).toList();
        }

        List<Packet> chairsOf(int output) {
            return seated.stream().filter(p -> p.output() == output).toList();
        }

        List<Integer> wayOf(int output) {
            return way.stream().filter(c -> c.output() == output).map(Credit::comes).sorted().toList();
        }

        int waitingFor(int output) {
            return (int) waiting.stream().filter(p -> p.output() == output).count();
        }

        int missing(int o) {
            return chairs[o] - credits[o] - chairsOf(o).size() - wayOf(o).size();
        }

        boolean stuck(int o) {
            return waitingFor(o) > 0 && credits[o] <= 0 && chairsOf(o).isEmpty() && wayOf(o).isEmpty() && watch == 0;
        }

        void arrive(int input, int output) {
            waiting.add(new Packet(arrived++, input, output, tick));
        }

        Packet offer(int input, int output) {
            List<Packet> queue = queue(input);
            if (mode == 0) {
                return !queue.isEmpty() && queue.get(0).output() == output ? queue.get(0) : null;
            }
            return queue.stream().filter(p -> p.output() == output).findFirst().orElse(null);
        }

        /** Passes a tick; answers which packet goes to each output, or null. */
        Packet[] tick() {
            int t = tick;
            for (int o = 0; o < 4; o++) {
                for (int comes : wayOf(o)) {
                    if (comes == t) {
                        credits[o]++;
                    }
                }
            }
            way.removeIf(c -> c.comes() == t);
            if (watch != 0 && t % watch == 0) {
                for (int o = 0; o < 4; o++) {
                    credits[o] = chairs[o] - chairsOf(o).size() - wayOf(o).size();
                }
            }
            Packet[] gone = new Packet[4];
            boolean[] sent = new boolean[4];
            for (int o = 0; o < 4; o++) {
                for (int i = turn[o], tries = 0; tries < 4 && credits[o] > 0 && gone[o] == null; tries++, i = i == 3 ? 0 : i + 1) {
                    Packet p = sent[i] ? null : offer(i, o);
                    if (p != null) {
                        gone[o] = p;
                        sent[i] = true;
                    }
                }
                if (gone[o] != null) {
                    leave(gone[o]);
                }
            }
            for (int o = 0; o < 4; o++) {
                if ((t + 1) % period[o] == 0 && !chairsOf(o).isEmpty()) {
                    seated.remove(chairsOf(o).get(0));
                    taken[o]++;
                    way.add(new Credit(o, t + delay[o]));
                }
            }
            for (int i = 0; i < 4; i++) {
                if (!sent[i] && !queue(i).isEmpty()) {
                    blocked[i]++;
                }
            }
            tick++;
            return gone;
        }

        private void leave(Packet p) {
            int o = p.output();
            waiting.remove(p);
            credits[o]--;
            turn[o] = (p.input() + 1) % 4;
            sentTo[o]++;
            sentBy[p.input()]++;
            if (chairsOf(o).size() < chairs[o]) {
                seated.add(p);
            } else {
                spilled[o]++;
            }
        }

        int ticks(int n) {
            int sum = 0;
            for (int k = 0; k < n; k++) {
                for (Packet p : tick()) {
                    sum += p == null ? 0 : 1;
                }
            }
            return sum;
        }
    }

    State now = new State();
    private State kept = null;
    private final List<State> history = new ArrayList<>();
    private String text = "";

    private static boolean off(int port) {
        return port < 0 || port > 3;
    }

    private void act() {
        history.add(now.copy());
        if (history.size() > 4) {
            history.remove(0);
        }
    }

    int setLane(int output, int what, int value) {
        if (off(output)) {
            return UNKNOWN;
        }
        if (what < 0 || what > 2 || value < 1 || value > new int[] {8, 9, 6}[what]) {
            return BAD_VALUE;
        }
        if (what == 0 && now.chairsOf(output).size() > value) {
            return NOT_POSSIBLE;
        }
        int old = new int[][] {now.chairs, now.period, now.delay}[what][output];
        if (old == value) {
            return NONE;
        }
        act();
        new int[][] {now.chairs, now.period, now.delay}[what][output] = value;
        if (what == 0) {
            now.credits[output] += value - old;
        }
        return old;
    }

    int set(int what, int value) {
        if (what < 0 || what > 1 || value < 0 || value > (what == 0 ? 1 : 60)) {
            return BAD_VALUE;
        }
        int old = what == 0 ? now.mode : now.watch;
        if (old == value) {
            return NONE;
        }
        act();
        if (what == 0) {
            now.mode = value;
        } else {
            now.watch = value;
        }
        return old;
    }

    int arrive(int input, int output) {
        if (off(input) || off(output)) {
            return UNKNOWN;
        }
        if (now.queue(input).size() == 8) {
            return FULL;
        }
        act();
        now.arrive(input, output);
        return now.arrived - 1;
    }

    /** The length of the longest start of the text that a text of arrivals can have. */
    private int fault() {
        if (text.matches("[0-3]>[0-3](\\*[1-9])?(,[0-3]>[0-3](\\*[1-9])?)*")) {
            return -1;
        }
        for (int at = text.length(); at > 0; at--) {
            String start = text.substring(0, at);
            if (start.matches("([0-3]>[0-3](\\*[1-9])?,)*([0-3](>([0-3](\\*[1-9]?)?)?)?)?")) {
                return at;
            }
        }
        return 0;
    }

    int readArrivals() {
        int fault = fault();
        if (fault >= 0) {
            return -100 - fault;
        }
        State trial = now.copy();
        for (String part : text.split(",")) {
            int times = part.length() > 3 ? part.charAt(4) - '0' : 1;
            for (int k = 0; k < times; k++) {
                trial.arrive(part.charAt(0) - '0', part.charAt(2) - '0');
            }
        }
        for (int i = 0; i < 4; i++) {
            if (trial.queue(i).size() > 8) {
                return FULL;
            }
        }
        act();
        int before = now.arrived;
        now = trial;
        return now.arrived - before;
    }

    int pass(int ticks) {
        if (ticks < 1 || ticks > 50) {
            return BAD_VALUE;
        }
        if (now.tick + ticks > 9999) {
            return NOT_POSSIBLE;
        }
        act();
        return now.ticks(ticks);
    }

    int lose(int output) {
        if (off(output)) {
            return UNKNOWN;
        }
        if (now.wayOf(output).isEmpty()) {
            return NOT_POSSIBLE;
        }
        act();
        now.way.remove(new Credit(output, now.wayOf(output).get(0)));
        now.lost[output]++;
        return now.wayOf(output).size();
    }

    int forge(int output) {
        if (off(output)) {
            return UNKNOWN;
        }
        if (now.credits[output] >= 16) {
            return FULL;
        }
        act();
        return ++now.credits[output] + 100;
    }

    int repair(int output) {
        if (off(output)) {
            return UNKNOWN;
        }
        int missing = now.missing(output);
        if (missing == 0) {
            return NONE;
        }
        act();
        now.credits[output] += missing;
        return missing + 100;
    }

    int type(char character) {
        if (text.length() == 60) {
            return FULL;
        }
        text = text + character;
        return text.length();
    }

    int clearText() {
        int length = text.length();
        text = "";
        return length;
    }

    int undo() {
        if (history.isEmpty()) {
            return NONE;
        }
        now = history.remove(history.size() - 1);
        return history.size();
    }

    int keep() {
        kept = now.copy();
        return now.tick;
    }

    int restore() {
        if (kept == null) {
            return NONE;
        }
        act();
        now = kept.copy();
        return now.tick;
    }

    int lane(int o, int what) {
        if (off(o)) {
            return UNKNOWN;
        }
        if (what < 0 || what > 13) {
            return BAD_VALUE;
        }
        return new int[] {
            now.chairs[o], now.period[o], now.delay[o], now.credits[o] + 100, now.chairsOf(o).size(),
            now.wayOf(o).size(), now.missing(o) + 100, now.turn[o], now.sentTo[o], now.taken[o],
            now.spilled[o], now.lost[o], now.waitingFor(o), now.stuck(o) ? 1 : 0}[what];
    }

    int seated(int output, int place) {
        if (off(output)) {
            return UNKNOWN;
        }
        if (place < 0) {
            return BAD_VALUE;
        }
        List<Packet> chairs = now.chairsOf(output);
        return place < chairs.size() ? chairs.get(place).number() : NONE;
    }

    int onTheWay(int output, int rank) {
        if (off(output)) {
            return UNKNOWN;
        }
        if (rank < 0) {
            return BAD_VALUE;
        }
        List<Integer> way = now.wayOf(output);
        return rank < way.size() ? way.get(rank) - now.tick + 1 : NONE;
    }

    int input(int input, int what) {
        if (off(input)) {
            return UNKNOWN;
        }
        if (what < 0 || what > 3) {
            return BAD_VALUE;
        }
        List<Packet> queue = now.queue(input);
        int first = queue.isEmpty() ? NONE : queue.get(0).output();
        return new int[] {queue.size(), now.blocked[input], now.sentBy[input], first}[what];
    }

    int packet(int input, int place, int what) {
        if (off(input)) {
            return UNKNOWN;
        }
        if (place < 0 || what < 0 || what > 2) {
            return BAD_VALUE;
        }
        List<Packet> queue = now.queue(input);
        if (place >= queue.size()) {
            return NONE;
        }
        Packet p = queue.get(place);
        return new int[] {p.number(), p.output(), p.since()}[what];
    }

    int next(int output) {
        if (off(output)) {
            return UNKNOWN;
        }
        Packet p = now.copy().tick()[output];
        return p == null ? NONE : p.number();
    }

    int leavesIn(int input, int place) {
        if (off(input)) {
            return UNKNOWN;
        }
        if (place < 0 || place >= now.queue(input).size()) {
            return BAD_VALUE;
        }
        Packet p = now.queue(input).get(place);
        State trial = now.copy();
        for (int k = 1; k <= 200; k++) {
            trial.tick();
            if (!trial.waiting.contains(p)) {
                return k;
            }
        }
        return NONE;
    }

    int wouldSend(int ticks, int mode) {
        if (ticks < 1 || ticks > 50 || mode < 0 || mode > 1) {
            return BAD_VALUE;
        }
        State trial = now.copy();
        trial.mode = mode;
        return trial.ticks(ticks);
    }

    int count(int what) {
        if (what < 0 || what > 12) {
            return BAD_VALUE;
        }
        int stuck = 0;
        for (int o = 0; o < 4; o++) {
            stuck += now.stuck(o) ? 1 : 0;
        }
        return new int[] {
            now.tick, now.arrived, now.waiting.size(), sum(now.sentBy), sum(now.taken), sum(now.spilled),
            now.seated.size(), sum(now.blocked), now.mode, now.watch, stuck, history.size(), text.length()}[what];
    }

    private static int sum(int[] row) {
        int sum = 0;
        for (int number : row) {
            sum += number;
        }
        return sum;
    }
}
