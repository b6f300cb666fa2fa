/** The edges of texts: their length, what is allowed at each place, and their faults. */
final class TextsEdges extends Calls {
    private static final String TEXTS = "TEXTS";
    private static final String TYPE = "Promise 10: type";
    private static final String CLEAR = "Promise 11: clearText";

    /** As many texts as one object reads within its 512 calls. */
    private static final int TEXTS_AN_OBJECT = 50;

    private TextsEdges() {
    }

    /** A text with this start has its fault behind it, but for these characters: 0 to 65535 are tried. */
    private static void allowedBehind(String start, String allowed) {
        ChairCredits x = new ChairCredits();
        for (int c = 0; c <= Character.MAX_VALUE; c++) {
            if (c % TEXTS_AN_OBJECT == 0) {
                x = new ChairCredits();
            }
            boolean isFault = read(x, start + (char) c) == -100 - start.length();
            if (isFault != (allowed.indexOf(c) < 0)) {
                Check.holds("the character " + c + " behind '" + start + "'", false);
            }
        }
    }

    private static void faultAt(String text, int fault) {
        due("'" + text + "'", read(new ChairCredits(), text), -100 - fault);
    }

    private static void arrivals(String text, int packets) {
        due("'" + text + "'", read(new ChairCredits(), text), packets);
    }

    // ---- texts of arrivals

    static void emptyAtFirst() {
        ChairCredits x = edge(TEXTS, "empty at first.");
        due("length", x.count(12), 0);
        due("fault", x.readArrivals(), -100);
        due("length that it had", x.clearText(), 0);
    }

    static void atMost60() {
        ChairCredits x = edge(TEXTS, "There is a text of at most 60 characters");
        String text = "0>0,1>1,2>2,3>3,".repeat(3) + "0>1,1>2,2>3";
        type(x, text);
        due("the 60th", x.type(','), 60);
        due("the 61st", x.type('0'), FULL);
        due("length", x.count(12), 60);
        due("it ends too early", x.readArrivals(), -160);
        due("the longest that has no fault", read(new ChairCredits(), text), 15);
    }

    static void oneOrMoreArrivals() {
        edge(TEXTS, "A text of arrivals is one or more arrivals with \",\" between two.");
        arrivals("0>0", 1);
        arrivals("0>0,1>1", 2);
        arrivals("0>0*2,1>1*2,2>2*2", 6);
        faultAt(",0>0", 0);
        faultAt("0>0,", 4);
        faultAt("0>0,,1>1", 4);
        faultAt("0>01>1", 3);
        faultAt("0>0*21>1", 5);
        faultAt("0>0;1>1", 3);
        faultAt("0>0, 1>1", 4);
        allowedBehind("0>0*1", ",");
    }

    static void inputFrom0To3() {
        edge(TEXTS, "An arrival is an input (a digit 0 to 3)");
        for (int input = 0; input < 4; input++) {
            arrivals(input + ">0", 1);
        }
        faultAt("/>0", 0);
        faultAt("4>0", 0);
        faultAt("-1>0", 0);
        allowedBehind("", "0123");
        allowedBehind("0>0,", "0123");
        allowedBehind("0>0*9,", "0123");
    }

    static void arrowBehindTheInput() {
        edge(TEXTS, "\">\", an output");
        faultAt("00>0", 1);
        faultAt("0=0", 1);
        faultAt("0?0", 1);
        faultAt("0,0", 1);
        allowedBehind("0", ">");
    }

    static void outputFrom0To3() {
        edge(TEXTS, "an output (0 to 3)");
        for (int output = 0; output < 4; output++) {
            ChairCredits x = new ChairCredits();
            due("for " + output, read(x, "0>" + output), 1);
            due("its output", x.packet(0, 0, 1), output);
        }
        faultAt("0>/", 2);
        faultAt("0>4", 2);
        faultAt("0>>", 2);
        allowedBehind("0>", "0123");
    }

    static void digitFrom1To9() {
        edge(TEXTS, "and perhaps \"*\" and a digit from 1 to 9 (so many packets");
        for (int times = 1; times <= 8; times++) {
            arrivals("0>0*" + times, times);
        }
        arrivals("0>0*9", FULL);
        faultAt("0>0*0", 4);
        faultAt("0>0*:", 4);
        faultAt("0>0**2", 4);
        faultAt("0>0*10", 5);
        faultAt("0>0*01", 4);
        allowedBehind("0>0*", "123456789");
    }

    static void oneIfItIsNotTold() {
        edge(TEXTS, "1 if it is not told).");
        arrivals("3>3", 1);
        arrivals("3>3,3>3*1", 2);
        arrivals("3>3*2,3>3", 3);
        ChairCredits x = new ChairCredits();
        read(x, "1>1*3");
        due("behind a text that told it", read(x, "1>1"), 1);
        allowedBehind("0>0", "*,");
    }

    static void theFirstFault() {
        edge(TEXTS, "The fault of the text is the index, from 0, of the first character that is not allowed at its place");
        faultAt("x>x*x", 0);
        faultAt("0x0*0", 1);
        faultAt("0>x*0", 2);
        faultAt("0>0x0", 3);
        faultAt("0>0*x", 4);
        faultAt("0>0*1x,", 5);
        faultAt("0>0,4>4,5", 4);
        faultAt("0>0*1,".repeat(9) + "0>0*1;", 59);
    }

    static void theEndThatIsTooEarly() {
        edge(TEXTS, "or the length of the text if it ends too early (the empty text does).");
        faultAt("", 0);
        faultAt("0", 1);
        faultAt("0>", 2);
        faultAt("0>0*", 4);
        faultAt("0>0,", 4);
        faultAt("0>0*1,", 6);
        faultAt("0>0,3", 5);
        faultAt("0>0*1,".repeat(10), 60);
        arrivals("0>0", 1);
        arrivals("0>0*1", 1);
    }

    // ---- type

    static void typesBehindTheText() {
        ChairCredits x = edge(TYPE, "Types a character behind the text.");
        x.type('2');
        x.type('>');
        x.type('1');
        due("one arrival", x.readArrivals(), 1);
        due("at the input 2", x.input(2, 3), 1);
        x.type('*');
        x.type('3');
        due("three arrivals", x.readArrivals(), 3);
    }

    static void anyCharacter() {
        ChairCredits x = edge(TYPE, "`character`: any character");
        int length = 0;
        for (int c : new int[] {0, 1, 9, 10, 32, 127, 128, 255, 256, 0x130, 0xD800, 0xFFFE, 0xFFFF}) {
            length++;
            due("the character " + c, x.type((char) c), length);
        }
        due("fault", x.readArrivals(), -100);
    }

    static void typeAnswersTheLength() {
        ChairCredits x = edge(TYPE, "Returns the length of the text then;");
        for (int length = 1; length <= 60; length++) {
            due("type", x.type('0'), length);
            due("length", x.count(12), length);
        }
        x.clearText();
        due("behind clearText()", x.type('0'), 1);
    }

    static void typeIntoAFullText() {
        ChairCredits x = edge(TYPE, "FULL if it has 60 characters.");
        type(x, "0".repeat(59));
        due("with 59", x.type('0'), 60);
        due("with 60", x.type('0'), FULL);
        String full = "0>0*1,".repeat(10);
        for (char c : new char[] {'0', ',', (char) 0, Character.MAX_VALUE}) {
            refused("with 60", y -> type(y, full), y -> y.type(c), FULL);
        }
    }

    static void typeIsNoAct() {
        ChairCredits x = edge(TYPE, "`int type(char character)`");
        x.type('0');
        due("history", x.count(11), 0);
        x.arrive(0, 0);
        x.type('>');
        x.undo();
        due("the text stays", x.count(12), 2);
    }

    // ---- clearText

    static void emptiesTheText() {
        ChairCredits x = edge(CLEAR, "Empties the text.");
        type(x, "0>0*2,1>1");
        x.clearText();
        due("length", x.count(12), 0);
        due("fault", x.readArrivals(), -100);
        x.type('0');
        due("what stood behind is gone", x.readArrivals(), -101);
        x.type('>');
        x.type('3');
        due("one arrival", x.readArrivals(), 1);
    }

    static void clearAnswersTheLength() {
        ChairCredits x = edge(CLEAR, "Returns the length that it had.");
        due("0", x.clearText(), 0);
        x.type('0');
        due("1", x.clearText(), 1);
        due("0", x.clearText(), 0);
        type(x, "0".repeat(60));
        due("60", x.clearText(), 60);
        due("room again", x.type('0'), 1);
    }

    static void clearIsNoAct() {
        ChairCredits x = edge(CLEAR, "`int clearText()`");
        type(x, "0>0");
        x.clearText();
        due("history", x.count(11), 0);
        due("undo", x.undo(), NONE);
        due("length", x.count(12), 0);
    }
}
