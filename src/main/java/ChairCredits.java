/** A switch box that sends a packet only if it has a credit for a chair. */
public final class ChairCredits {
    public static final int UNKNOWN = -1;
    public static final int BAD_VALUE = -2;
    public static final int FULL = -3;
    public static final int NOT_POSSIBLE = -4;
    public static final int NONE = -5;

    /** There are as many inputs as outputs. */
    private static final int PORTS = 4;
    private static final int QUEUE_ROOM = 8;
    private static final int HISTORY_ROOM = 4;
    private static final int TEXT_ROOM = 60;
    private static final int MOST_CHAIRS = 8;
    private static final int MOST_PERIOD = 9;
    private static final int MOST_DELAY = 6;
    private static final int MOST_WATCH = 60;
    private static final int MOST_TICKS = 50;
    private static final int FORECAST_TICKS = 200;
    private static final int LAST_TICK = 9999;
    private static final int FORGE_LIMIT = 16;

    /** Keeps numbers that may be below 0 apart from the errors. */
    private static final int SHIFT = 100;
    /** Keeps the faults of a text apart from the errors. */
    private static final int FAULT_BASE = -100;

    private static final int CHAIRS = 0;
    private static final int PERIOD = 1;
    private static final int DELAY = 2;
    private static final int MODE = 0;
    private static final int WATCH = 1;

    /** What lane() tells of a lane, and count() of all of them. */
    private static final int SEATED = 4;
    private static final int SENT = 8;
    private static final int TAKEN = 9;
    private static final int SPILLED = 10;
    /** What input() tells of an input, and count() of all of them. */
    private static final int QUEUED = 0;
    private static final int BLOCKED = 1;

    /** No place in a row, and no fault in a text. */
    private static final int NOWHERE = -1;

    /** What is due at a place of a text of arrivals. */
    private static final int INPUT_DUE = 0;
    private static final int ARROW_DUE = 1;
    private static final int OUTPUT_DUE = 2;
    private static final int STAR_OR_COMMA_DUE = 3;
    private static final int TIMES_DUE = 4;
    private static final int COMMA_DUE = 5;

    private final Box box = new Box();
    /** Forecasts, and readings that may fail half-way, happen here. */
    private final Box trial = new Box();
    private final Box snapshot = new Box();
    private boolean hasSnapshot = false;
    private final Box[] history = new Box[HISTORY_ROOM];
    private int historySize = 0;
    private final char[] text = new char[TEXT_ROOM];
    private int textLength = 0;

    public ChairCredits() {
        for (int i = 0; i < HISTORY_ROOM; i++) {
            history[i] = new Box();
        }
    }

    // ---- settings

    public int setLane(int output, int what, int value) {
        if (!isPort(output)) {
            return UNKNOWN;
        }
        if (value < 1 || value > mostOfLane(what)) {
            return BAD_VALUE;
        }
        Lane lane = box.lanes[output];
        if (what == CHAIRS && lane.seatedSize > value) {
            return NOT_POSSIBLE;
        }
        int previous = lane.setting(what);
        if (previous == value) {
            return NONE;
        }
        remember();
        lane.change(what, value);
        return previous;
    }

    public int set(int what, int value) {
        if (value < 0 || value > mostOfBox(what)) {
            return BAD_VALUE;
        }
        int previous = what == MODE ? box.mode : box.watch;
        if (previous == value) {
            return NONE;
        }
        remember();
        if (what == MODE) {
            box.mode = value;
        } else {
            box.watch = value;
        }
        return previous;
    }

    // ---- packets

    public int arrive(int input, int output) {
        if (!isPort(input) || !isPort(output)) {
            return UNKNOWN;
        }
        if (!box.hasRoom(input, 1)) {
            return FULL;
        }
        remember();
        return box.admit(input, output);
    }

    public int readArrivals() {
        int fault = faultOfText();
        if (fault != NOWHERE) {
            return FAULT_BASE - fault;
        }
        trial.copyFrom(box);
        int admitted = admitTextToTrial();
        if (admitted == FULL) {
            return FULL;
        }
        remember();
        box.copyFrom(trial);
        return admitted;
    }

    public int pass(int ticks) {
        if (!isTickCount(ticks)) {
            return BAD_VALUE;
        }
        if (box.tick + ticks > LAST_TICK) {
            return NOT_POSSIBLE;
        }
        remember();
        return box.passTicks(ticks);
    }

    // ---- credits

    public int lose(int output) {
        if (!isPort(output)) {
            return UNKNOWN;
        }
        Lane lane = box.lanes[output];
        if (lane.wayLength == 0) {
            return NOT_POSSIBLE;
        }
        remember();
        lane.loseFirst();
        return lane.wayLength;
    }

    public int forge(int output) {
        if (!isPort(output)) {
            return UNKNOWN;
        }
        Lane lane = box.lanes[output];
        if (lane.credits >= FORGE_LIMIT) {
            return FULL;
        }
        remember();
        lane.credits++;
        return lane.credits + SHIFT;
    }

    public int repair(int output) {
        if (!isPort(output)) {
            return UNKNOWN;
        }
        Lane lane = box.lanes[output];
        int missing = lane.missing();
        if (missing == 0) {
            return NONE;
        }
        remember();
        lane.mend();
        return missing + SHIFT;
    }

    // ---- texts

    public int type(char character) {
        if (textLength >= TEXT_ROOM) {
            return FULL;
        }
        text[textLength] = character;
        textLength++;
        return textLength;
    }

    public int clearText() {
        int previous = textLength;
        textLength = 0;
        return previous;
    }

    // ---- history

    public int undo() {
        if (historySize == 0) {
            return NONE;
        }
        historySize--;
        box.copyFrom(history[historySize]);
        return historySize;
    }

    public int keep() {
        snapshot.copyFrom(box);
        hasSnapshot = true;
        return box.tick;
    }

    public int restore() {
        if (!hasSnapshot) {
            return NONE;
        }
        remember();
        box.copyFrom(snapshot);
        return box.tick;
    }

    // ---- what is told

    public int lane(int output, int what) {
        if (!isPort(output)) {
            return UNKNOWN;
        }
        if (what == 12) {
            return box.waitingFor(output);
        }
        if (what == 13) {
            return box.isStuck(output) ? 1 : 0;
        }
        return box.lanes[output].figure(what);
    }

    public int seated(int output, int place) {
        if (!isPort(output)) {
            return UNKNOWN;
        }
        if (place < 0) {
            return BAD_VALUE;
        }
        Lane lane = box.lanes[output];
        return place < lane.seatedSize ? lane.seatedNumbers[place] : NONE;
    }

    public int onTheWay(int output, int rank) {
        if (!isPort(output)) {
            return UNKNOWN;
        }
        if (rank < 0) {
            return BAD_VALUE;
        }
        Lane lane = box.lanes[output];
        return rank < lane.wayLength ? lane.wayTicks[rank] - box.tick + 1 : NONE;
    }

    public int input(int input, int what) {
        if (!isPort(input)) {
            return UNKNOWN;
        }
        return box.queues[input].figure(what);
    }

    public int packet(int input, int place, int what) {
        if (!isPort(input)) {
            return UNKNOWN;
        }
        if (place < 0 || what < 0 || what > 2) {
            return BAD_VALUE;
        }
        return box.queues[input].packetFigure(place, what);
    }

    public int next(int output) {
        if (!isPort(output)) {
            return UNKNOWN;
        }
        trial.copyFrom(box);
        trial.beginTick();
        int number = NONE;
        // The outputs ahead of this one may take an input's only turn to send.
        for (int i = 0; i <= output; i++) {
            number = trial.sendTo(i);
        }
        return number;
    }

    public int leavesIn(int input, int place) {
        if (!isPort(input)) {
            return UNKNOWN;
        }
        if (place < 0 || place >= box.queues[input].size) {
            return BAD_VALUE;
        }
        int number = box.queues[input].numbers[place];
        trial.copyFrom(box);
        for (int ticks = 1; ticks <= FORECAST_TICKS; ticks++) {
            trial.passTick();
            if (!trial.queues[input].holds(number)) {
                return ticks;
            }
        }
        return NONE;
    }

    public int wouldSend(int ticks, int mode) {
        if (!isTickCount(ticks) || mode < 0 || mode > mostOfBox(MODE)) {
            return BAD_VALUE;
        }
        trial.copyFrom(box);
        trial.mode = mode;
        return trial.passTicks(ticks);
    }

    public int count(int what) {
        if (what == 11) {
            return historySize;
        }
        if (what == 12) {
            return textLength;
        }
        return box.figure(what);
    }

    // ---- what the calls share

    private static boolean isPort(int number) {
        return number >= 0 && number < PORTS;
    }

    private static boolean isTickCount(int ticks) {
        return ticks >= 1 && ticks <= MOST_TICKS;
    }

    /** The highest value of a lane's setting, or one that no value meets. */
    private static int mostOfLane(int what) {
        switch (what) {
            case CHAIRS:
                return MOST_CHAIRS;
            case PERIOD:
                return MOST_PERIOD;
            case DELAY:
                return MOST_DELAY;
            default:
                return -1;
        }
    }

    /** The highest value of a setting of the box, or one that no value meets. */
    private static int mostOfBox(int what) {
        switch (what) {
            case MODE:
                return 1;
            case WATCH:
                return MOST_WATCH;
            default:
                return -1;
        }
    }

    /** Records the state, for undo(), ahead of an act that can't fail any more. */
    private void remember() {
        if (historySize >= HISTORY_ROOM) {
            dropOldest();
        }
        history[historySize].copyFrom(box);
        historySize++;
    }

    /** Moves the oldest box to the end, where its rows are used again. */
    private void dropOldest() {
        Box oldest = history[0];
        for (int i = 1; i < HISTORY_ROOM; i++) {
            history[i - 1] = history[i];
        }
        history[HISTORY_ROOM - 1] = oldest;
        historySize = HISTORY_ROOM - 1;
    }

    private int faultOfText() {
        int due = INPUT_DUE;
        for (int at = 0; at < textLength; at++) {
            due = dueBehind(due, text[at]);
            if (due == NOWHERE) {
                return at;
            }
        }
        boolean mayEnd = due == STAR_OR_COMMA_DUE || due == COMMA_DUE;
        return mayEnd ? NOWHERE : textLength;
    }

    /** What is due behind a character, or NOWHERE if it is not allowed. */
    private static int dueBehind(int due, char character) {
        switch (due) {
            case INPUT_DUE:
                return isPort(character - '0') ? ARROW_DUE : NOWHERE;
            case ARROW_DUE:
                return character == '>' ? OUTPUT_DUE : NOWHERE;
            case OUTPUT_DUE:
                return isPort(character - '0') ? STAR_OR_COMMA_DUE : NOWHERE;
            case STAR_OR_COMMA_DUE:
                if (character == '*') {
                    return TIMES_DUE;
                }
                return character == ',' ? INPUT_DUE : NOWHERE;
            case TIMES_DUE:
                return character >= '1' && character <= '9' ? COMMA_DUE : NOWHERE;
            default:
                return character == ',' ? INPUT_DUE : NOWHERE;
        }
    }

    /** Needs a text without a fault; answers how many packets, or FULL. */
    private int admitTextToTrial() {
        int admitted = 0;
        for (int at = 0; at + 2 < textLength; at += tellsTimes(at) ? 6 : 4) {
            int input = text[at] - '0';
            int output = text[at + 2] - '0';
            int times = tellsTimes(at) ? text[at + 4] - '0' : 1;
            if (!trial.hasRoom(input, times)) {
                return FULL;
            }
            for (int i = 0; i < times; i++) {
                trial.admit(input, output);
            }
            admitted += times;
        }
        return admitted;
    }

    private boolean tellsTimes(int at) {
        return at + 4 < textLength && text[at + 3] == '*';
    }

    /** A state: everything but the text, the history and the snapshot. */
    private static final class Box {
        private int tick = 0;
        private int mode = 0;
        private int watch = 0;
        private int arrived = 0;
        private final Lane[] lanes = new Lane[PORTS];
        private final Queue[] queues = new Queue[PORTS];

        private Box() {
            for (int i = 0; i < PORTS; i++) {
                lanes[i] = new Lane();
                queues[i] = new Queue();
            }
        }

        private void copyFrom(Box other) {
            tick = other.tick;
            mode = other.mode;
            watch = other.watch;
            arrived = other.arrived;
            for (int i = 0; i < PORTS; i++) {
                lanes[i].copyFrom(other.lanes[i]);
                queues[i].copyFrom(other.queues[i]);
            }
        }

        private boolean hasRoom(int input, int packets) {
            return isPort(input) && queues[input].size + packets <= QUEUE_ROOM;
        }

        /** Needs room for the packet; answers its number. */
        private int admit(int input, int output) {
            int number = arrived;
            queues[input].append(number, output, tick);
            arrived++;
            return number;
        }

        private int passTicks(int ticks) {
            int sent = 0;
            for (int i = 0; i < ticks; i++) {
                sent += passTick();
            }
            return sent;
        }

        /** Answers how many packets are sent. */
        private int passTick() {
            beginTick();
            int sent = 0;
            for (int output = 0; output < PORTS; output++) {
                if (sendTo(output) != NONE) {
                    sent++;
                }
            }
            for (int output = 0; output < PORTS; output++) {
                lanes[output].takeIfDue(tick);
            }
            for (int input = 0; input < PORTS; input++) {
                queues[input].countBlocked();
            }
            tick++;
            return sent;
        }

        /** What happens ahead of the sending. */
        private void beginTick() {
            boolean mends = watch > 0 && tick % watch == 0;
            for (int i = 0; i < PORTS; i++) {
                queues[i].hasSent = false;
                lanes[i].letCreditsCome(tick);
                if (mends) {
                    lanes[i].mend();
                }
            }
        }

        /** Answers the number of the packet that is sent, or NONE. */
        private int sendTo(int output) {
            Lane lane = lanes[output];
            if (lane.credits <= 0) {
                return NONE;
            }
            for (int step = 0; step < PORTS; step++) {
                int input = (lane.turn + step) % PORTS;
                int place = queues[input].offerFor(output, mode);
                if (place != NOWHERE) {
                    int number = queues[input].sendFrom(place);
                    lane.receive(number);
                    lane.turn = (input + 1) % PORTS;
                    return number;
                }
            }
            return NONE;
        }

        private int waitingFor(int output) {
            int waiting = 0;
            for (int input = 0; input < PORTS; input++) {
                waiting += queues[input].waitingFor(output);
            }
            return waiting;
        }

        private boolean isStuck(int output) {
            return watch == 0 && lanes[output].isDry() && waitingFor(output) > 0;
        }

        private int stuckLanes() {
            int stuck = 0;
            for (int output = 0; output < PORTS; output++) {
                if (isStuck(output)) {
                    stuck++;
                }
            }
            return stuck;
        }

        /** A number that count() tells. */
        private int figure(int what) {
            switch (what) {
                case 0:
                    return tick;
                case 1:
                    return arrived;
                case 2:
                    return sumOfQueues(QUEUED);
                case 3:
                    return sumOfLanes(SENT);
                case 4:
                    return sumOfLanes(TAKEN);
                case 5:
                    return sumOfLanes(SPILLED);
                case 6:
                    return sumOfLanes(SEATED);
                case 7:
                    return sumOfQueues(BLOCKED);
                case 8:
                    return mode;
                case 9:
                    return watch;
                case 10:
                    return stuckLanes();
                default:
                    return BAD_VALUE;
            }
        }

        private int sumOfLanes(int what) {
            int sum = 0;
            for (int output = 0; output < PORTS; output++) {
                sum += lanes[output].figure(what);
            }
            return sum;
        }

        private int sumOfQueues(int what) {
            int sum = 0;
            for (int input = 0; input < PORTS; input++) {
                sum += queues[input].figure(what);
            }
            return sum;
        }
    }

    /** What an output has. */
    private static final class Lane {
        private int chairs = 3;
        private int period = 2;
        private int delay = 2;
        private int credits = 3;
        private int turn = 0;
        private int sent = 0;
        private int taken = 0;
        private int spilled = 0;
        private int lost = 0;
        /** The packets that are seated, from the one that was seated first. */
        private final int[] seatedNumbers = new int[MOST_CHAIRS];
        private int seatedSize = 0;
        /**
         * The ticks in which credits come, in their order. At most one credit
         * starts in a tick, and none takes longer than the longest delay: so
         * there are never more on the way than this row has room for.
         */
        private final int[] wayTicks = new int[MOST_DELAY];
        private int wayLength = 0;

        private void copyFrom(Lane other) {
            chairs = other.chairs;
            period = other.period;
            delay = other.delay;
            credits = other.credits;
            turn = other.turn;
            sent = other.sent;
            taken = other.taken;
            spilled = other.spilled;
            lost = other.lost;
            seatedSize = other.seatedSize;
            wayLength = other.wayLength;
            System.arraycopy(other.seatedNumbers, 0, seatedNumbers, 0, MOST_CHAIRS);
            System.arraycopy(other.wayTicks, 0, wayTicks, 0, MOST_DELAY);
        }

        private int setting(int what) {
            switch (what) {
                case CHAIRS:
                    return chairs;
                case PERIOD:
                    return period;
                default:
                    return delay;
            }
        }

        private void change(int what, int value) {
            switch (what) {
                case CHAIRS:
                    credits += value - chairs;
                    chairs = value;
                    break;
                case PERIOD:
                    period = value;
                    break;
                default:
                    delay = value;
                    break;
            }
        }

        private int missing() {
            return chairs - credits - seatedSize - wayLength;
        }

        private void mend() {
            credits += missing();
        }

        /** Has nothing to send with, and nothing that would bring a credit. */
        private boolean isDry() {
            return credits <= 0 && seatedSize == 0 && wayLength == 0;
        }

        private void letCreditsCome(int tick) {
            for (int i = 0; i < MOST_DELAY && creditComes(tick); i++) {
                dropFirstOnTheWay();
                credits++;
            }
        }

        private boolean creditComes(int tick) {
            return wayLength > 0 && wayTicks[0] <= tick;
        }

        private void loseFirst() {
            dropFirstOnTheWay();
            lost++;
        }

        private void dropFirstOnTheWay() {
            if (wayLength <= 0) {
                return;
            }
            for (int i = 1; i < wayLength; i++) {
                wayTicks[i - 1] = wayTicks[i];
            }
            wayLength--;
        }

        /** Seats the packet, or spills it. */
        private void receive(int number) {
            credits--;
            sent++;
            if (seatedSize < chairs && seatedSize < MOST_CHAIRS) {
                seatedNumbers[seatedSize] = number;
                seatedSize++;
            } else {
                spilled++;
            }
        }

        private void takeIfDue(int tick) {
            boolean isDue = period > 0 && (tick + 1) % period == 0;
            if (!isDue || seatedSize <= 0) {
                return;
            }
            for (int i = 1; i < seatedSize; i++) {
                seatedNumbers[i - 1] = seatedNumbers[i];
            }
            seatedSize--;
            taken++;
            sendCreditBack(tick + delay);
        }

        /** Keeps the order: after a change of the delay a later credit may come earlier. */
        private void sendCreditBack(int comesIn) {
            if (wayLength >= MOST_DELAY) {
                return;
            }
            int rank = wayLength;
            while (rank > 0 && wayTicks[rank - 1] > comesIn) {
                wayTicks[rank] = wayTicks[rank - 1];
                rank--;
            }
            wayTicks[rank] = comesIn;
            wayLength++;
        }

        /** A number that lane() tells of this lane alone. */
        private int figure(int what) {
            switch (what) {
                case CHAIRS:
                    return chairs;
                case PERIOD:
                    return period;
                case DELAY:
                    return delay;
                case 3:
                    return credits + SHIFT;
                case SEATED:
                    return seatedSize;
                case 5:
                    return wayLength;
                case 6:
                    return missing() + SHIFT;
                case 7:
                    return turn;
                case SENT:
                    return sent;
                case TAKEN:
                    return taken;
                case SPILLED:
                    return spilled;
                case 11:
                    return lost;
                default:
                    return BAD_VALUE;
            }
        }
    }

    /** What an input has: its packets are in rows side by side. */
    private static final class Queue {
        private final int[] numbers = new int[QUEUE_ROOM];
        private final int[] outputs = new int[QUEUE_ROOM];
        private final int[] arrivalTicks = new int[QUEUE_ROOM];
        private int size = 0;
        private int blocked = 0;
        private int sent = 0;
        /** Tells of the tick that passes, and is no part of a state. */
        private boolean hasSent = false;

        private void copyFrom(Queue other) {
            size = other.size;
            blocked = other.blocked;
            sent = other.sent;
            System.arraycopy(other.numbers, 0, numbers, 0, QUEUE_ROOM);
            System.arraycopy(other.outputs, 0, outputs, 0, QUEUE_ROOM);
            System.arraycopy(other.arrivalTicks, 0, arrivalTicks, 0, QUEUE_ROOM);
        }

        private void append(int number, int output, int tick) {
            if (size >= QUEUE_ROOM) {
                return;
            }
            numbers[size] = number;
            outputs[size] = output;
            arrivalTicks[size] = tick;
            size++;
        }

        /** The place of the packet that is offered, or NOWHERE. */
        private int offerFor(int output, int mode) {
            if (hasSent) {
                return NOWHERE;
            }
            int reach = mode == 0 ? Math.min(size, 1) : size;
            for (int place = 0; place < reach; place++) {
                if (outputs[place] == output) {
                    return place;
                }
            }
            return NOWHERE;
        }

        /** Needs a place below the size; answers the packet's number. */
        private int sendFrom(int place) {
            int number = numbers[place];
            for (int i = place + 1; i < size; i++) {
                numbers[i - 1] = numbers[i];
                outputs[i - 1] = outputs[i];
                arrivalTicks[i - 1] = arrivalTicks[i];
            }
            size--;
            sent++;
            hasSent = true;
            return number;
        }

        private void countBlocked() {
            if (size > 0 && !hasSent) {
                blocked++;
            }
        }

        private int waitingFor(int output) {
            int waiting = 0;
            for (int place = 0; place < size; place++) {
                if (outputs[place] == output) {
                    waiting++;
                }
            }
            return waiting;
        }

        private boolean holds(int number) {
            for (int place = 0; place < size; place++) {
                if (numbers[place] == number) {
                    return true;
                }
            }
            return false;
        }

        /** A number that input() tells. */
        private int figure(int what) {
            switch (what) {
                case QUEUED:
                    return size;
                case BLOCKED:
                    return blocked;
                case 2:
                    return sent;
                case 3:
                    return size > 0 ? outputs[0] : NONE;
                default:
                    return BAD_VALUE;
            }
        }

        /** A number that packet() tells. */
        private int packetFigure(int place, int what) {
            if (place >= size) {
                return NONE;
            }
            switch (what) {
                case 0:
                    return numbers[place];
                case 1:
                    return outputs[place];
                default:
                    return arrivalTicks[place];
            }
        }
    }
}
