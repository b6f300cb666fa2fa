import java.util.function.IntSupplier;

/** Long runs of calls, drawn by a fixed rule, against the plain box. */
public final class PlainBoxTest {
    private static final int RUNS = 400;
    private static final int CALLS = 512;
    private static final int[] ODD = {-1, -2, 4, 9, 14, 61, 100, Integer.MIN_VALUE, Integer.MAX_VALUE};

    private final int run;
    private final ChairCredits box = new ChairCredits();
    private final PlainBox plain = new PlainBox();
    private long seed;
    private int calls = 0;

    private PlainBoxTest(int run) {
        this.run = run;
        this.seed = 88172645463325252L + run * 2654435761L;
    }

    public static void main(String[] args) {
        for (int run = 0; run < RUNS; run++) {
            PlainBoxTest test = new PlainBoxTest(run);
            test.begin();
            while (test.calls < CALLS) {
                test.step();
            }
        }
        Check.end();
    }

    private int draw(int bound) {
        seed ^= seed << 13;
        seed ^= seed >>> 7;
        seed ^= seed << 17;
        return (int) Math.floorMod(seed >>> 20, (long) bound);
    }

    /** Mostly from..to, at times something else. */
    private int number(int from, int to) {
        if (draw(25) == 0) {
            return draw(2) == 0 ? ODD[draw(ODD.length)] : draw(2) == 0 ? from - 1 : to + 1;
        }
        return from + draw(to - from + 1);
    }

    private void due(String call, IntSupplier got, IntSupplier want) {
        // A step may come to more calls than are promised.
        if (calls < CALLS) {
            calls++;
            Check.title("run " + run + ", call " + calls);
            Check.due(call, got.getAsInt(), want.getAsInt());
        }
    }

    /** Some runs begin where others hardly come. */
    private void begin() {
        if (run % 10 == 8) {
            late();
        }
        for (int o = 0; o < 4 && run % 10 == 6; o++) {
            lay(o, 8, 1, 6);
        }
        for (int o = 0; o < 4 && run % 10 == 4; o++) {
            lay(o, 1, 1 + draw(2), 1 + draw(3));
        }
    }

    /** Near to the last tick, or at it. */
    private void late() {
        for (int i = 0; i < 199; i++) {
            pass(50);
        }
        pass(number(30, 49));
    }

    private void lay(int o, int chairs, int period, int delay) {
        setLane(o, 0, chairs);
        setLane(o, 1, period);
        setLane(o, 2, delay);
    }

    private void step() {
        // Some runs have few acts of one kind, so that others show what they do alone.
        int kind = draw(run % 3 == 0 ? 24 : 34);
        switch (kind) {
            case 0, 1 -> setLane();
            case 2 -> set();
            case 3, 4, 5, 6, 7, 8, 26, 27, 28 -> arrive();
            case 9, 10, 11, 29, 30, 31 -> pass();
            case 12 -> lose();
            case 18 -> delayOrLoss();
            case 13 -> forge();
            case 14 -> repair();
            case 15 -> text();
            case 16 -> undo();
            case 17 -> keepOrRestore();
            default -> ask();
        }
    }

    private void setLane() {
        int o = number(0, 3);
        int what = number(0, 2);
        setLane(o, what, number(1, what == 0 ? 8 : what == 1 ? 9 : 6));
    }

    private void setLane(int o, int what, int value) {
        due("setLane(" + o + ", " + what + ", " + value + ")", () -> box.setLane(o, what, value), () -> plain.setLane(o, what, value));
    }

    private void set() {
        int what = number(0, 1);
        int value = what == 0 ? number(0, 1) : draw(3) == 0 ? 0 : number(0, 60);
        due("set(" + what + ", " + value + ")", () -> box.set(what, value), () -> plain.set(what, value));
    }

    private void arrive() {
        arrive(number(0, 3), run % 2 == 0 ? number(0, 3) : number(0, 1));
    }

    private void arrive(int i, int o) {
        due("arrive(" + i + ", " + o + ")", () -> box.arrive(i, o), () -> plain.arrive(i, o));
    }

    private void pass() {
        int ticks = draw(3) == 0 ? number(1, 50) : number(1, 4);
        if (run % 10 == 9) {
            ticks = number(48, 50);
        }
        pass(ticks);
    }

    private void pass(int ticks) {
        due("pass(" + ticks + ")", () -> box.pass(ticks), () -> plain.pass(ticks));
    }

    private void lose() {
        lose(number(0, 3));
    }

    private void lose(int o) {
        due("lose(" + o + ")", () -> box.lose(o), () -> plain.lose(o));
    }

    private void delayOrLoss() {
        int o = number(0, 3);
        if (run % 10 == 6) {
            changingDelays(o);
        } else if (run % 10 == 4) {
            runningDry(o);
        }
    }

    /** So that credits come in another order than they went. */
    private void changingDelays(int o) {
        for (int i = 0; i < 3; i++) {
            setLane(o, 2, number(1, 6));
            arrive(i, o);
            pass(1);
            onTheWay(o, i);
        }
    }

    /** So that lanes are stuck, at 0 credits and below. */
    private void runningDry(int o) {
        setLane(o, 0, number(1, 3));
        for (int i = 0; i < 4; i++) {
            arrive(i, o);
            pass(1);
            lose(o);
        }
        setLane(o, 0, number(1, 3));
        lane(o, 13);
    }

    private void forge() {
        int o = number(0, 3);
        int times = draw(8) == 0 ? 14 : 1;
        for (int k = 0; k < times; k++) {
            due("forge(" + o + ")", () -> box.forge(o), () -> plain.forge(o));
        }
    }

    private void repair() {
        int o = number(0, 3);
        due("repair(" + o + ")", () -> box.repair(o), () -> plain.repair(o));
    }

    private void text() {
        if (draw(4) != 0) {
            due("clearText()", () -> box.clearText(), () -> plain.clearText());
        }
        int parts = draw(6) == 0 ? 16 : 1 + draw(3);
        for (int k = 0; k < parts; k++) {
            String part = draw(4) + ">" + draw(4) + (draw(2) == 0 ? "*" + times() : "");
            type(k + 1 < parts ? part + "," : part);
        }
        due("readArrivals()", () -> box.readArrivals(), () -> plain.readArrivals());
    }

    /** Mostly few; 0 is not allowed. */
    private int times() {
        return draw(4) == 0 ? draw(10) : 1 + draw(3);
    }

    private void type(String part) {
        for (char c : part.toCharArray()) {
            char typed = draw(60) == 0 ? (char) (draw(2) == 0 ? 40 + draw(24) : draw(65536)) : c;
            due("type((char) " + (int) typed + ")", () -> box.type(typed), () -> plain.type(typed));
        }
    }

    private void undo() {
        int times = draw(4) == 0 ? 5 : 1;
        for (int k = 0; k < times; k++) {
            due("undo()", () -> box.undo(), () -> plain.undo());
        }
    }

    private void keepOrRestore() {
        if (draw(2) == 0) {
            due("keep()", () -> box.keep(), () -> plain.keep());
        } else {
            due("restore()", () -> box.restore(), () -> plain.restore());
        }
    }

    private void ask() {
        int port = number(0, 3);
        int place = number(0, 7);
        switch (draw(9)) {
            case 0 -> lanes();
            case 1 -> due("seated(" + port + ", " + place + ")", () -> box.seated(port, place), () -> plain.seated(port, place));
            case 2 -> onTheWay(port, place);
            case 3 -> inputs();
            case 4 -> packet(port, place, number(0, 2));
            case 5 -> due("next(" + port + ")", () -> box.next(port), () -> plain.next(port));
            case 6 -> due("leavesIn(" + port + ", " + place + ")", () -> box.leavesIn(port, place), () -> plain.leavesIn(port, place));
            case 7 -> wouldSend(number(1, 50), number(0, 1));
            default -> counts();
        }
    }

    private void onTheWay(int o, int rank) {
        due("onTheWay(" + o + ", " + rank + ")", () -> box.onTheWay(o, rank), () -> plain.onTheWay(o, rank));
    }

    private void packet(int i, int place, int what) {
        due("packet(" + i + ", " + place + ", " + what + ")", () -> box.packet(i, place, what), () -> plain.packet(i, place, what));
    }

    private void wouldSend(int ticks, int mode) {
        due("wouldSend(" + ticks + ", " + mode + ")", () -> box.wouldSend(ticks, mode), () -> plain.wouldSend(ticks, mode));
    }

    private void lanes() {
        int o = number(0, 3);
        for (int what = -1; what <= 14; what++) {
            lane(o, what);
        }
    }

    private void lane(int o, int what) {
        due("lane(" + o + ", " + what + ")", () -> box.lane(o, what), () -> plain.lane(o, what));
    }

    private void inputs() {
        int i = number(0, 3);
        for (int what = -1; what <= 4; what++) {
            int asked = what;
            due("input(" + i + ", " + what + ")", () -> box.input(i, asked), () -> plain.input(i, asked));
        }
    }

    private void counts() {
        for (int what = -1; what <= 13; what++) {
            int asked = what;
            due("count(" + what + ")", () -> box.count(asked), () -> plain.count(asked));
        }
    }
}
