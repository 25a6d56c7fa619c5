// The promises 1 to 27, one method for each: ordinary inputs, the edges that the document names, wrong inputs.
public final class Promises {
    private static final int UNKNOWN = -101;
    private static final int BAD_VALUE = -102;
    private static final int FULL = -103;
    private static final int NOT_POSSIBLE = -104;
    private static final int NONE = -105;
    private static final int LOW = Integer.MIN_VALUE;
    private static final int HIGH = Integer.MAX_VALUE;

    private static int wrong = 0;
    private static int promise = 0;

    private static void due(String call, int got, int want) {
        if (got != want) {
            wrong++;
            System.out.println("promise " + promise + ": " + call + " answered " + got + ", due is " + want);
        }
    }

    private static void type(TiltedCards x, String text) {
        for (int i = 0; i < text.length(); i++) {
            x.type(text.charAt(i));
        }
    }

    private static int readOf(TiltedCards x, String text) {
        x.clearText();
        type(x, text);
        return x.read();
    }

    private static TiltedCards cardOf(String text) {
        TiltedCards x = new TiltedCards();
        type(x, text);
        x.read();
        return x;
    }

    private static void dueOrder(TiltedCards x, int... views) {
        for (int s = 0; s < views.length; s++) {
            due("viewOf(" + s + ")", x.viewOf(s), views[s]);
        }
        due("viewOf(" + views.length + ")", x.viewOf(views.length), UNKNOWN);
    }

    private static void dueRow(TiltedCards x, int view, String digits) {
        for (int c = 0; c < digits.length(); c++) {
            due("colourOf(" + view + ", " + c + ")", x.colourOf(view, c), digits.charAt(c) - '0');
        }
    }

    private static void dueCounts(TiltedCards x, int... counts) {
        for (int what = 0; what < counts.length; what++) {
            due("count(" + what + ")", x.count(what), counts[what]);
        }
    }

    private static final String ZEROS = "000000000000";
    private static final String ONES = "111111111111";
    private static final String RISING = "012345678901";
    private static final String FALLING = "987654321098";

    private static void newObject() {
        TiltedCards x = new TiltedCards();
        dueCounts(x, 2, 2, 0, 0, 0, 19, 2, 0, 0, 0, 0, 0, 0);
        dueOrder(x, 0, 1);
        dueRow(x, 0, ZEROS);
        dueRow(x, 1, ZEROS);
        due("colourOf(2, 0)", x.colourOf(2, 0), UNKNOWN);
        due("undo()", x.undo(), NONE);
        due("restore()", x.restore(), NONE);
        due("read()", x.read(), -200);
    }

    private static void colour() {
        TiltedCards x = new TiltedCards();
        due("colour(1, 11, 9)", x.colour(1, 11, 9), 0);
        due("colour(1, 11, 4)", x.colour(1, 11, 4), 9);
        due("colour(1, 11, 4)", x.colour(1, 11, 4), NONE);
        due("colour(0, 0, 0)", x.colour(0, 0, 0), NONE);
        due("colour(0, 0, 1)", x.colour(0, 0, 1), 0);
        dueRow(x, 0, "100000000000");
        dueRow(x, 1, "000000000004");
        due("colour(2, 0, 1)", x.colour(2, 0, 1), UNKNOWN);
        due("colour(-1, 0, 1)", x.colour(-1, 0, 1), UNKNOWN);
        due("colour(0, 12, 1)", x.colour(0, 12, 1), UNKNOWN);
        due("colour(0, -1, 1)", x.colour(0, -1, 1), UNKNOWN);
        due("colour(LOW, HIGH, LOW)", x.colour(LOW, HIGH, LOW), UNKNOWN);
        due("colour(0, 12, 10)", x.colour(0, 12, 10), UNKNOWN);
        due("colour(0, 0, 10)", x.colour(0, 0, 10), BAD_VALUE);
        due("colour(0, 0, -1)", x.colour(0, 0, -1), BAD_VALUE);
        due("colour(0, 0, HIGH)", x.colour(0, 0, HIGH), BAD_VALUE);
        due("count(11)", x.count(11), 3);
        due("undo()", x.undo(), 2);
        due("colourOf(0, 0)", x.colourOf(0, 0), 0);
    }

    private static void addView() {
        TiltedCards x = new TiltedCards();
        x.setPitch(6);
        x.slice(0, 1);
        due("addView()", x.addView(), 3);
        dueOrder(x, 0, 1, 2, 0, 1, 2);
        dueRow(x, 2, ZEROS);
        due("addView()", x.addView(), 4);
        dueOrder(x, 0, 1, 2, 3, 0, 1);
        due("count(11)", x.count(11), 4);
        x.colour(3, 2, 5);
        x.slice(5, 3);
        due("addView()", x.addView(), FULL);
        dueOrder(x, 0, 1, 2, 3, 0, 3);
        due("undo()", x.undo(), 3);
        due("viewOf(5)", x.viewOf(5), 1);
        due("colour(3, 2, 0)", x.colour(3, 2, 0), 5);
        due("colour(3, 2, 5)", x.colour(3, 2, 5), 0);
        x.colour(3, 0, 6);
        x.colour(3, 11, 7);
        x.removeView(3);
        due("addView()", x.addView(), 4);
        dueRow(x, 3, ZEROS);
        readOf(x, ONES + "/" + ONES + "/" + ONES);
        readOf(x, ONES + "/" + ONES);
        x.addView();
        dueRow(x, 2, ZEROS);
    }

    private static void removeView() {
        TiltedCards x = cardOf(ZEROS + "/" + ONES + "/" + RISING + "/" + FALLING + ":3210");
        due("removeView(4)", x.removeView(4), UNKNOWN);
        due("removeView(-1)", x.removeView(-1), UNKNOWN);
        due("removeView(HIGH)", x.removeView(HIGH), UNKNOWN);
        due("removeView(1)", x.removeView(1), 3);
        dueOrder(x, 0, 1, 2, 0);
        dueRow(x, 0, ZEROS);
        dueRow(x, 1, RISING);
        dueRow(x, 2, FALLING);
        due("colourOf(3, 0)", x.colourOf(3, 0), UNKNOWN);
        due("removeView(3)", x.removeView(3), UNKNOWN);
        due("removeView(2)", x.removeView(2), 2);
        dueOrder(x, 0, 1, 0, 1);
        due("count(11)", x.count(11), 3);
        due("removeView(2)", x.removeView(2), UNKNOWN);
        due("removeView(0)", x.removeView(0), NOT_POSSIBLE);
        due("removeView(1)", x.removeView(1), NOT_POSSIBLE);
        due("count(11)", x.count(11), 3);
        due("undo()", x.undo(), 2);
        due("undo()", x.undo(), 1);
        dueOrder(x, 3, 2, 1, 0);
        dueRow(x, 1, ONES);
        dueRow(x, 3, FALLING);
        due("removeView(0)", x.removeView(0), 3);
        dueRow(x, 0, ONES);
    }

    private static void swap() {
        TiltedCards x = cardOf("012000000000/000000000003/" + ONES + ":0021");
        due("swap(0, 3)", x.swap(0, 3), UNKNOWN);
        due("swap(3, 0)", x.swap(3, 0), UNKNOWN);
        due("swap(-1, -1)", x.swap(-1, -1), UNKNOWN);
        due("swap(3, 3)", x.swap(3, 3), UNKNOWN);
        due("swap(LOW, HIGH)", x.swap(LOW, HIGH), UNKNOWN);
        due("swap(2, 2)", x.swap(2, 2), NONE);
        due("count(11)", x.count(11), 1);
        due("swap(0, 1)", x.swap(0, 1), 3);
        dueRow(x, 0, "000000000003");
        dueRow(x, 1, "012000000000");
        dueRow(x, 2, ONES);
        dueOrder(x, 0, 0, 2, 1);
        due("swap(2, 0)", x.swap(2, 0), 12);
        dueRow(x, 0, ONES);
        dueRow(x, 2, "000000000003");
        TiltedCards y = new TiltedCards();
        due("swap(0, 1)", y.swap(0, 1), 0);
        due("count(11)", y.count(11), 1);
    }

    private static void setPitch() {
        TiltedCards x = new TiltedCards();
        x.slice(0, 1);
        due("setPitch(2)", x.setPitch(2), NONE);
        dueOrder(x, 1, 1);
        due("setPitch(6)", x.setPitch(6), 2);
        dueOrder(x, 0, 1, 0, 1, 0, 1);
        x.slice(1, 0);
        due("setPitch(3)", x.setPitch(3), 6);
        dueOrder(x, 0, 1, 0);
        due("setPitch(1)", x.setPitch(1), BAD_VALUE);
        due("setPitch(7)", x.setPitch(7), BAD_VALUE);
        due("setPitch(LOW)", x.setPitch(LOW), BAD_VALUE);
        due("setPitch(3)", x.setPitch(3), NONE);
        due("count(1)", x.count(1), 3);
        due("count(11)", x.count(11), 4);
        due("undo()", x.undo(), 3);
        dueOrder(x, 0, 0, 0, 1, 0, 1);
        x.addView();
        due("setPitch(2)", x.setPitch(2), 6);
        dueOrder(x, 0, 1);
    }

    private static void slice() {
        TiltedCards x = new TiltedCards();
        x.setPitch(3);
        due("slice(2, 1)", x.slice(2, 1), 0);
        due("slice(2, 0)", x.slice(2, 0), 1);
        due("slice(1, 1)", x.slice(1, 1), NONE);
        due("slice(1, 0)", x.slice(1, 0), 1);
        dueOrder(x, 0, 0, 0);
        due("slice(3, 0)", x.slice(3, 0), UNKNOWN);
        due("slice(-1, 0)", x.slice(-1, 0), UNKNOWN);
        due("slice(0, 2)", x.slice(0, 2), UNKNOWN);
        due("slice(0, -1)", x.slice(0, -1), UNKNOWN);
        due("slice(HIGH, LOW)", x.slice(HIGH, LOW), UNKNOWN);
        due("count(11)", x.count(11), 4);
        due("undo()", x.undo(), 3);
        dueOrder(x, 0, 1, 0);
    }

    private static void setShift() {
        TiltedCards x = new TiltedCards();
        due("setShift(0)", x.setShift(0), NONE);
        due("setShift(3)", x.setShift(3), 0);
        due("setShift(3)", x.setShift(3), NONE);
        due("setShift(-3)", x.setShift(-3), 3);
        due("setShift(4)", x.setShift(4), BAD_VALUE);
        due("setShift(-4)", x.setShift(-4), BAD_VALUE);
        due("setShift(LOW)", x.setShift(LOW), BAD_VALUE);
        due("count(2)", x.count(2), -3);
        due("setPitch(4)", x.setPitch(4), 2);
        due("count(2)", x.count(2), -3);
        due("count(11)", x.count(11), 3);
        x.undo();
        x.undo();
        due("count(2)", x.count(2), 3);
    }

    private static void setLean() {
        TiltedCards x = new TiltedCards();
        due("setLean(0)", x.setLean(0), NONE);
        due("setLean(3)", x.setLean(3), 0);
        due("setLean(3)", x.setLean(3), NONE);
        due("setLean(1)", x.setLean(1), 3);
        due("setLean(4)", x.setLean(4), BAD_VALUE);
        due("setLean(-1)", x.setLean(-1), BAD_VALUE);
        due("setLean(HIGH)", x.setLean(HIGH), BAD_VALUE);
        due("count(3)", x.count(3), 1);
        due("count(11)", x.count(11), 2);
        x.undo();
        due("count(3)", x.count(3), 3);
    }

    private static void order() {
        TiltedCards x = new TiltedCards();
        due("order()", x.order(), NONE);
        x.slice(0, 1);
        x.slice(1, 0);
        due("count(11)", x.count(11), 2);
        due("order()", x.order(), 0);
        dueOrder(x, 0, 1);
        due("count(11)", x.count(11), 3);
        due("order()", x.order(), NONE);
        due("count(11)", x.count(11), 3);
        x.undo();
        dueOrder(x, 1, 0);
        // fewer slices than views: one view alone makes no ghosts
        x.addView();
        due("order()", x.order(), 0);
        dueOrder(x, 0, 0);
        // with the lean 3 the ridges 5 and 6, and others, see other places at one angle
        TiltedCards y = cardOf(ZEROS + "/" + ONES + ":0011");
        y.setLean(3);
        y.setShift(1);
        due("order()", y.order(), 76);
        dueOrder(y, 0, 0, 0, 1);
        due("count(4)", y.count(4), 76);
    }

    private static void read() {
        TiltedCards x = new TiltedCards();
        x.setShift(2);
        x.setLean(1);
        x.press(3);
        due("read 3 views", readOf(x, RISING + "/" + FALLING + "/" + ONES + ":210012"), 3);
        dueCounts(x, 3, 6, 2, 1);
        due("count(7)", x.count(7), 3);
        due("count(10)", x.count(10), 15);
        due("count(11)", x.count(11), 4);
        due("count(12)", x.count(12), 45);
        dueOrder(x, 2, 1, 0, 0, 1, 2);
        dueRow(x, 0, RISING);
        dueRow(x, 1, FALLING);
        dueRow(x, 2, ONES);
        due("read again", x.read(), 3);
        due("read 2 views", readOf(x, ONES + "/" + RISING), 2);
        dueOrder(x, 0, 1, 0, 1, 0, 1);
        dueRow(x, 0, ONES);
        due("colourOf(2, 0)", x.colourOf(2, 0), UNKNOWN);
        String four = ONES + "/" + ONES + "/" + ONES + "/" + ONES;
        due("read 4 views", readOf(x, four), 4);
        dueOrder(x, 0, 1, 2, 3, 0, 1);
        due("read 4 views with 2 slices", readOf(x, four + ":33"), 4);
        dueOrder(x, 3, 3);
        due("a fault after 6 slices", readOf(x, four + ":3333333"), -258);
        due("a slice of no view", readOf(x, four + ":3334"), -255);
        due("one slice", readOf(x, four + ":3"), -253);
        due("no slices", readOf(x, four + ":"), -252);
        due("5 views", readOf(x, four + "/" + ONES), -251);
        due("13 digits", readOf(x, four + "1"), -251);
        due("a second order", readOf(x, four + ":01:"), -254);
        due("a line's end", readOf(x, four + "\n"), -251);
        dueOrder(x, 3, 3);
        due("nothing", readOf(x, ""), -200);
        due("one digit", readOf(x, "1"), -201);
        due("one view", readOf(x, ONES), -212);
        due("one view with slices", readOf(x, ONES + ":00"), -212);
        due("a view without digits", readOf(x, ONES + "//"), -213);
        due("a short view", readOf(x, ONES + "/11"), -215);
        due("a short view in front", readOf(x, "11/"), -202);
        due("a slice 2 of 2 views", readOf(x, ONES + "/" + ONES + ":12"), -227);
        due("a letter", readOf(x, "1a1"), -201);
        due("before 0", readOf(x, "/"), -200);
        due("a colon alone", readOf(x, ":"), -200);
        due("a digit of another script", readOf(x, "1" + (char) 0x661), -201);
        due("the character 65535", readOf(x, "" + (char) 65535), -200);
        due("a digit's sign and 256", readOf(x, "" + (char) ('1' + 256)), -200);
        due("count(1)", x.count(1), 2);
        due("count(0)", x.count(0), 4);
        TiltedCards y = new TiltedCards();
        y.read();
        due("count(11)", y.count(11), 0);
        y.setPitch(5);
        readOf(y, ONES + "/" + ONES + "/" + ONES);
        dueOrder(y, 0, 1, 2, 0, 1);
        due("undo()", y.undo(), 1);
        due("count(12)", y.count(12), 38);
        due("count(0)", y.count(0), 2);
        TiltedCards z = new TiltedCards();
        for (int i = 0; i < 80; i++) {
            z.type('0');
        }
        due("read 80 digits", z.read(), -212);
    }

    private static void press() {
        TiltedCards x = new TiltedCards();
        due("press(0)", x.press(0), BAD_VALUE);
        due("press(1000)", x.press(1000), BAD_VALUE);
        due("press(LOW)", x.press(LOW), BAD_VALUE);
        due("press(HIGH)", x.press(HIGH), BAD_VALUE);
        due("count(11)", x.count(11), 0);
        due("press(1)", x.press(1), 1);
        due("press(999)", x.press(999), 999);
        dueCounts(x, 2, 2, 0, 0, 0, 19, 2, 1000, 1000, 0, 5000, 2);
        // a view that is left out of the slices is never shown
        x.slice(0, 1);
        due("press(10)", x.press(10), 0);
        x.setPitch(6);
        due("press(5)", x.press(5), 5);
        dueCounts(x, 2, 6, 0, 0, 0, 19, 2, 1015, 1005, 10, 5095);
        due("undo()", x.undo(), 3);
        due("count(7)", x.count(7), 1010);
        due("count(8)", x.count(8), 1000);
        due("count(9)", x.count(9), 10);
        due("count(10)", x.count(10), 5050);
        TiltedCards y = new TiltedCards();
        y.setPitch(6);
        for (int i = 0; i < 100; i++) {
            due("press(999)", y.press(999), 999);
        }
        due("press(100)", y.press(100), FULL);
        due("press(999)", y.press(999), FULL);
        due("press(1000)", y.press(1000), BAD_VALUE);
        due("press(99)", y.press(99), 99);
        due("press(1)", y.press(1), FULL);
        due("count(7)", y.count(7), 99999);
        due("count(10)", y.count(10), 899991);
        due("count(8)", y.count(8), 99999);
        y.undo();
        due("press(98)", y.press(98), 98);
    }

    private static void typing() {
        TiltedCards x = new TiltedCards();
        due("type(0)", x.type((char) 0), 1);
        due("type(65535)", x.type((char) 65535), 2);
        for (int i = 3; i <= 80; i++) {
            due("type(" + i + ")", x.type('1'), i);
        }
        due("type(80)", x.type('1'), FULL);
        due("count(12)", x.count(12), 80);
        due("count(11)", x.count(11), 0);
        due("undo()", x.undo(), NONE);
        due("read()", x.read(), -200);
        TiltedCards y = cardOf(RISING + "/" + FALLING + ":10");
        dueRow(y, 0, RISING);
        due("type(0)", y.type('0'), 29);
        due("read()", y.read(), 2);
        dueOrder(y, 1, 0, 0);
    }

    private static void clearText() {
        TiltedCards x = new TiltedCards();
        due("clearText()", x.clearText(), 0);
        type(x, ONES + "/" + RISING + ":10");
        due("clearText()", x.clearText(), 28);
        due("clearText()", x.clearText(), 0);
        due("count(12)", x.count(12), 0);
        due("count(11)", x.count(11), 0);
        due("read()", x.read(), -200);
        due("type('1')", x.type('1'), 1);
        due("read()", x.read(), -201);
    }

    private static void undo() {
        TiltedCards x = new TiltedCards();
        due("undo()", x.undo(), NONE);
        x.setLean(1);
        x.setShift(2);
        x.type('7');
        due("undo()", x.undo(), 1);
        dueCounts(x, 2, 2, 0, 1);
        due("count(12)", x.count(12), 1);
        due("undo()", x.undo(), 0);
        due("count(3)", x.count(3), 0);
        due("undo()", x.undo(), NONE);
        // of six states the oldest two are dropped
        for (int colour = 1; colour <= 6; colour++) {
            x.colour(0, 5, colour);
        }
        due("count(11)", x.count(11), 4);
        due("undo()", x.undo(), 3);
        due("colourOf(0, 5)", x.colourOf(0, 5), 5);
        due("undo()", x.undo(), 2);
        due("colour(0, 5, 9)", x.colour(0, 5, 9), 4);
        due("undo()", x.undo(), 2);
        due("undo()", x.undo(), 1);
        due("undo()", x.undo(), 0);
        due("colourOf(0, 5)", x.colourOf(0, 5), 2);
        due("undo()", x.undo(), NONE);
        due("colourOf(0, 5)", x.colourOf(0, 5), 2);
    }

    private static void keep() {
        TiltedCards x = new TiltedCards();
        due("keep()", x.keep(), 2);
        due("count(11)", x.count(11), 0);
        x.addView();
        due("keep()", x.keep(), 3);
        due("count(11)", x.count(11), 1);
        x.addView();
        due("restore()", x.restore(), 3);
        x.undo();
        x.undo();
        x.undo();
        due("count(0)", x.count(0), 2);
        due("restore()", x.restore(), 3);
    }

    private static void restore() {
        TiltedCards x = new TiltedCards();
        due("restore()", x.restore(), NONE);
        due("count(11)", x.count(11), 0);
        x.colour(1, 3, 8);
        x.setPitch(3);
        x.slice(2, 1);
        x.setShift(-2);
        x.setLean(2);
        x.press(4);
        x.type('q');
        x.keep();
        x.press(1);
        readOf(x, ONES + "/" + ONES + "/" + ONES + ":2222");
        x.setShift(1);
        x.setLean(0);
        due("restore()", x.restore(), 2);
        dueCounts(x, 2, 3, -2, 2);
        due("count(7)", x.count(7), 4);
        due("count(10)", x.count(10), 24);
        due("count(11)", x.count(11), 4);
        due("count(12)", x.count(12), 43);
        dueOrder(x, 0, 1, 1);
        dueRow(x, 1, "000800000000");
        due("restore()", x.restore(), 2);
        due("undo()", x.undo(), 3);
        due("undo()", x.undo(), 2);
        dueCounts(x, 3, 4, 1, 0);
        x.colour(0, 0, 9);
        due("restore()", x.restore(), 2);
        due("colourOf(0, 0)", x.colourOf(0, 0), 0);
    }

    private static void colourOf() {
        TiltedCards x = cardOf(RISING + "/" + FALLING);
        dueRow(x, 0, RISING);
        dueRow(x, 1, FALLING);
        due("colourOf(2, 0)", x.colourOf(2, 0), UNKNOWN);
        due("colourOf(-1, 0)", x.colourOf(-1, 0), UNKNOWN);
        due("colourOf(0, 12)", x.colourOf(0, 12), UNKNOWN);
        due("colourOf(0, -1)", x.colourOf(0, -1), UNKNOWN);
        due("colourOf(HIGH, LOW)", x.colourOf(HIGH, LOW), UNKNOWN);
        due("count(11)", x.count(11), 1);
    }

    private static void viewOf() {
        TiltedCards x = cardOf(RISING + "/" + FALLING + "/" + ONES + ":0122");
        x.setShift(2);
        dueOrder(x, 0, 1, 2, 2);
        due("viewOf(-1)", x.viewOf(-1), UNKNOWN);
        due("viewOf(HIGH)", x.viewOf(HIGH), UNKNOWN);
        due("viewOf(LOW)", x.viewOf(LOW), UNKNOWN);
        x.setPitch(2);
        due("viewOf(2)", x.viewOf(2), UNKNOWN);
    }

    private static void behind() {
        TiltedCards x = cardOf(RISING + "/" + FALLING + "/" + ONES + ":0122");
        due("behind(3, 1, 0)", x.behind(3, 1, 0), 1);
        due("behind(3, 1, 1)", x.behind(3, 1, 1), 6);
        due("behind(3, 1, 2)", x.behind(3, 1, 2), 3);
        x.setShift(3);
        for (int what = 0; what < 3; what++) {
            due("behind(0, 2, " + what + ")", x.behind(0, 2, what), NONE);
        }
        due("behind(0, 3, 0)", x.behind(0, 3, 0), 0);
        due("behind(0, 3, 2)", x.behind(0, 3, 2), 0);
        due("behind(11, 0, 0)", x.behind(11, 0, 0), 1);
        due("behind(11, 0, 1)", x.behind(11, 0, 1), 9);
        due("behind(11, 0, 2)", x.behind(11, 0, 2), 10);
        due("behind(11, 3, 2)", x.behind(11, 3, 2), 11);
        x.setShift(-1);
        due("behind(0, 0, 0)", x.behind(0, 0, 0), 1);
        due("behind(0, 3, 0)", x.behind(0, 3, 0), 0);
        due("behind(0, 3, 1)", x.behind(0, 3, 1), 1);
        due("behind(0, 3, 2)", x.behind(0, 3, 2), 1);
        due("behind(11, 2, 0)", x.behind(11, 2, 0), 2);
        due("behind(11, 3, 0)", x.behind(11, 3, 0), NONE);
        due("behind(11, 3, 1)", x.behind(11, 3, 1), NONE);
        due("behind(11, 3, 2)", x.behind(11, 3, 2), NONE);
        due("behind(11, 3, 3)", x.behind(11, 3, 3), BAD_VALUE);
        due("behind(0, 0, -1)", x.behind(0, 0, -1), BAD_VALUE);
        due("behind(0, 0, HIGH)", x.behind(0, 0, HIGH), BAD_VALUE);
        due("behind(12, 0, 0)", x.behind(12, 0, 0), UNKNOWN);
        due("behind(-1, 0, 0)", x.behind(-1, 0, 0), UNKNOWN);
        due("behind(0, 4, 0)", x.behind(0, 4, 0), UNKNOWN);
        due("behind(0, -1, 3)", x.behind(0, -1, 3), UNKNOWN);
        due("behind(HIGH, LOW, HIGH)", x.behind(HIGH, LOW, HIGH), UNKNOWN);
        // with the pitch 2 a shift of 3 goes over two ridges
        TiltedCards y = new TiltedCards();
        y.setShift(3);
        due("behind(1, 0, 2)", y.behind(1, 0, 2), NONE);
        due("behind(1, 1, 2)", y.behind(1, 1, 2), 0);
        due("behind(11, 0, 0)", y.behind(11, 0, 0), 1);
        due("behind(11, 0, 2)", y.behind(11, 0, 2), 9);
        due("count(11)", y.count(11), 1);
    }

    private static void seen() {
        TiltedCards x = cardOf(RISING + "/" + FALLING + "/" + ONES + ":0122");
        // 4 * (angle + 9) / 19: 0 to -5, 1 to 0, 2 to 5, 3 from 6 on
        due("seen(-9, 3, 2)", x.seen(-9, 3, 2), 0);
        due("seen(-5, 3, 2)", x.seen(-5, 3, 2), 0);
        due("seen(-4, 3, 2)", x.seen(-4, 3, 2), 1);
        due("seen(0, 3, 2)", x.seen(0, 3, 2), 1);
        due("seen(1, 3, 2)", x.seen(1, 3, 2), 2);
        due("seen(5, 3, 2)", x.seen(5, 3, 2), 2);
        due("seen(6, 3, 2)", x.seen(6, 3, 2), 3);
        due("seen(9, 3, 2)", x.seen(9, 3, 2), 3);
        due("seen(-4, 3, 0)", x.seen(-4, 3, 0), 1);
        due("seen(-4, 3, 1)", x.seen(-4, 3, 1), 6);
        due("seen(-4, 3, 3)", x.seen(-4, 3, 3), 0);
        due("seen(10, 0, 0)", x.seen(10, 0, 0), UNKNOWN);
        due("seen(-10, 0, 0)", x.seen(-10, 0, 0), UNKNOWN);
        due("seen(0, 12, 4)", x.seen(0, 12, 4), UNKNOWN);
        due("seen(0, -1, 0)", x.seen(0, -1, 0), UNKNOWN);
        due("seen(LOW, HIGH, LOW)", x.seen(LOW, HIGH, LOW), UNKNOWN);
        due("seen(0, 0, 4)", x.seen(0, 0, 4), BAD_VALUE);
        due("seen(0, 0, -1)", x.seen(0, 0, -1), BAD_VALUE);
        // the lean 1 adds -1 for the ridges 0 to 2, 1 for 10 and 11, and 0 between: rounded towards 0
        x.setLean(1);
        due("seen(0, 2, 2)", x.seen(0, 2, 2), 0);
        due("seen(0, 3, 2)", x.seen(0, 3, 2), 1);
        due("seen(0, 9, 2)", x.seen(0, 9, 2), 1);
        due("seen(0, 10, 2)", x.seen(0, 10, 2), 2);
        due("seen(-9, 0, 2)", x.seen(-9, 0, 2), 0);
        due("seen(9, 11, 2)", x.seen(9, 11, 2), 3);
        due("seen(0, 1, 3)", x.seen(0, 1, 3), 0);
        due("seen(0, 2, 3)", x.seen(0, 2, 3), 1);
        due("seen(0, 3, 3)", x.seen(0, 3, 3), 1);
        due("seen(0, 4, 3)", x.seen(0, 4, 3), 0);
        due("seen(0, 0, 3)", x.seen(0, 0, 3), 0);
        due("seen(0, 11, 3)", x.seen(0, 11, 3), 0);
        // places of unlike ridges that show the same view make no ghosts
        due("seen(1, 10, 2)", x.seen(1, 10, 2), 3);
        due("seen(1, 10, 3)", x.seen(1, 10, 3), 0);
        // the lean 3 adds -4 for the ridge 0 and 3 for the ridge 11
        x.setLean(3);
        due("seen(9, 0, 2)", x.seen(9, 0, 2), 0);
        due("seen(9, 1, 2)", x.seen(9, 1, 2), 0);
        due("seen(9, 3, 2)", x.seen(9, 3, 2), 1);
        due("seen(9, 5, 2)", x.seen(9, 5, 2), 3);
        due("seen(-9, 11, 2)", x.seen(-9, 11, 2), 3);
        // nothing is another view than a view, but not than nothing
        TiltedCards y = new TiltedCards();
        y.setShift(3);
        due("seen(-9, 0, 0)", y.seen(-9, 0, 0), NONE);
        due("seen(-9, 0, 1)", y.seen(-9, 0, 1), NONE);
        due("seen(-9, 0, 2)", y.seen(-9, 0, 2), 0);
        due("seen(-9, 0, 3)", y.seen(-9, 0, 3), 0);
        due("seen(-9, 1, 0)", y.seen(-9, 1, 0), NONE);
        due("seen(-9, 1, 3)", y.seen(-9, 1, 3), 1);
        due("seen(-9, 2, 0)", y.seen(-9, 2, 0), 1);
        due("seen(-9, 2, 3)", y.seen(-9, 2, 3), 1);
        due("seen(-9, 3, 3)", y.seen(-9, 3, 3), 0);
        due("seen(9, 0, 3)", y.seen(9, 0, 3), 1);
        due("seen(9, 1, 0)", y.seen(9, 1, 0), 0);
        due("count(11)", y.count(11), 1);
    }

    private static void at() {
        TiltedCards x = cardOf(RISING + "/" + FALLING + "/" + ONES + ":0122");
        due("at(-5, 1)", x.at(-5, 1), 0);
        due("at(-4, 1)", x.at(-4, 1), 1);
        due("at(9, 1)", x.at(9, 1), 2);
        due("at(9, 0)", x.at(9, 0), 0);
        due("at(9, 2)", x.at(9, 2), 2);
        due("at(9, 3)", x.at(9, 3), 12);
        due("at(9, 4)", x.at(9, 4), 0);
        x.setLean(1);
        // at the angle 0: the view 0 thrice, 1 seven times, 2 twice
        due("at(0, 0)", x.at(0, 0), 4);
        due("at(0, 1)", x.at(0, 1), NONE);
        due("at(0, 2)", x.at(0, 2), 1);
        due("at(0, 3)", x.at(0, 3), 7);
        due("at(9, 1)", x.at(9, 1), 2);
        due("at(10, 0)", x.at(10, 0), UNKNOWN);
        due("at(-10, 5)", x.at(-10, 5), UNKNOWN);
        due("at(HIGH, 0)", x.at(HIGH, 0), UNKNOWN);
        due("at(0, 5)", x.at(0, 5), BAD_VALUE);
        due("at(0, -1)", x.at(0, -1), BAD_VALUE);
        due("at(0, LOW)", x.at(0, LOW), BAD_VALUE);
        TiltedCards y = new TiltedCards();
        // a view that all but the ridge 0 show is not shown whole
        y.setShift(1);
        due("at(-9, 1)", y.at(-9, 1), NONE);
        due("at(-9, 3)", y.at(-9, 3), 11);
        y.setShift(3);
        due("at(-9, 4)", y.at(-9, 4), 2);
        due("at(-9, 0)", y.at(-9, 0), 2);
        due("at(-9, 1)", y.at(-9, 1), NONE);
        due("at(-9, 2)", y.at(-9, 2), 1);
        due("at(-9, 3)", y.at(-9, 3), 10);
        due("at(9, 4)", y.at(9, 4), 1);
        // the view that most ridges show, of several the lowest
        TiltedCards z = new TiltedCards();
        z.setPitch(6);
        z.setLean(2);
        readOf(z, ONES + "/" + ONES + ":111100");
        // at the angle 0 the step 2 and -3 -2 -2 -1 -1 0 0 0 1 1 2 2: the places 0 0 0 1 1 2 2 2 3 3 4 4
        due("at(0, 2)", z.at(0, 2), 1);
        due("at(0, 3)", z.at(0, 3), 10);
        // at the angle 1 the step 3: the places 0 1 1 2 2 3 3 3 4 4 5 5
        due("at(1, 3)", z.at(1, 3), 8);
        // at the angle 4 the step 4: the places 1 2 2 3 3 4 4 4 5 5 5 5
        due("at(4, 2)", z.at(4, 2), 0);
        due("at(4, 3)", z.at(4, 3), 7);
        readOf(z, ONES + "/" + ONES + ":111000");
        // at the angle 1 the places 0 to 2 of five ridges, at the angle 0 those of eight
        due("at(1, 3)", z.at(1, 3), 7);
        due("at(0, 3)", z.at(0, 3), 8);
        readOf(z, ONES + "/" + ONES + "/" + ONES + ":221001");
        // at the angle 1: the view 2 thrice, 1 four times, 0 five times
        due("at(1, 2)", z.at(1, 2), 0);
        due("at(1, 3)", z.at(1, 3), 5);
        readOf(z, ONES + "/" + ONES + "/" + ONES + ":122022");
        // at the angle 0: the places 0 to 4 thrice, twice, thrice, twice, twice
        due("at(0, 2)", z.at(0, 2), 2);
        readOf(z, ONES + "/" + ONES + "/" + ONES + ":122010");
        // at the angle 0: the views 1 and 2 five times each, 0 twice
        due("at(0, 2)", z.at(0, 2), 1);
        due("at(0, 3)", z.at(0, 3), 5);
        due("at(0, 0)", z.at(0, 0), 6);
    }

    private static void view() {
        TiltedCards x = cardOf(RISING + "/" + FALLING + "/" + ONES + ":0022");
        due("view(0, 0)", x.view(0, 0), 2);
        due("view(1, 0)", x.view(1, 0), 0);
        due("view(0, 1)", x.view(0, 1), 10);
        due("view(1, 1)", x.view(1, 1), 0);
        due("view(2, 1)", x.view(2, 1), 9);
        due("view(0, 2)", x.view(0, 2), -9);
        due("view(1, 2)", x.view(1, 2), -9);
        due("view(2, 2)", x.view(2, 2), 1);
        due("view(0, 3)", x.view(0, 3), 12);
        due("view(1, 3)", x.view(1, 3), 0);
        due("view(3, 0)", x.view(3, 0), UNKNOWN);
        due("view(-1, 9)", x.view(-1, 9), UNKNOWN);
        due("view(LOW, 0)", x.view(LOW, 0), UNKNOWN);
        due("view(0, 4)", x.view(0, 4), BAD_VALUE);
        due("view(0, -1)", x.view(0, -1), BAD_VALUE);
        due("view(0, HIGH)", x.view(0, HIGH), BAD_VALUE);
        // a view that is never shown: the fewest ghosts, of these the lowest angle
        x.setLean(1);
        x.setShift(1);
        // step 0: the places 0, but 1 for the ridges 10 and 11; nothing, then 2 nine times, then 0 twice
        due("at(-9, 0)", x.at(-9, 0), 4);
        // step 1: the places 0 0 0 1 1 1 1 1 1 1 2 2; nothing, 2 twice, 0 nine times
        due("at(-4, 0)", x.at(-4, 0), 4);
        // step 2: the places 1 1 1 2 2 2 2 2 2 2 3 3; the view 0 ten times, 2 twice
        due("at(1, 0)", x.at(1, 0), 2);
        due("view(1, 2)", x.view(1, 2), 1);
        due("view(1, 3)", x.view(1, 3), 0);
        due("view(0, 2)", x.view(0, 2), 1);
        due("view(0, 3)", x.view(0, 3), 10);
        due("view(0, 1)", x.view(0, 1), 0);
        // step 3: the places 2 2 2 3 3 3 3 3 3 3 3 3; 0 thrice, 2 nine times as in step 0, with fewer ghosts
        due("at(6, 0)", x.at(6, 0), 2);
        due("view(2, 2)", x.view(2, 2), 6);
        due("view(2, 3)", x.view(2, 3), 9);
        due("view(2, 0)", x.view(2, 0), 2);
        due("view(2, 1)", x.view(2, 1), 0);
        due("count(11)", x.count(11), 3);
    }

    private static void bestOrder() {
        TiltedCards x = new TiltedCards();
        due("bestOrder(0)", x.bestOrder(0), 0);
        due("bestOrder(1)", x.bestOrder(1), 1);
        due("bestOrder(2)", x.bestOrder(2), UNKNOWN);
        due("bestOrder(-1)", x.bestOrder(-1), UNKNOWN);
        due("bestOrder(HIGH)", x.bestOrder(HIGH), UNKNOWN);
        x.setPitch(4);
        int[] noGhosts = {0, 0, 0, 1};
        for (int s = 0; s < 4; s++) {
            due("bestOrder(" + s + ")", x.bestOrder(s), noGhosts[s]);
        }
        dueOrder(x, 0, 1, 0, 1);
        x.addView();
        x.addView();
        for (int s = 0; s < 4; s++) {
            due("bestOrder(" + s + ")", x.bestOrder(s), s);
        }
        x.setPitch(3);
        for (int s = 0; s < 3; s++) {
            due("bestOrder(" + s + ")", x.bestOrder(s), 0);
        }
        due("bestOrder(3)", x.bestOrder(3), UNKNOWN);
        due("count(11)", x.count(11), 4);
        x.removeView(0);
        due("bestOrder(2)", x.bestOrder(2), 2);
        int[][] settings = {{2, 4, 3, 1}, {2, 6, 1, -2}, {3, 5, 2, 0}, {3, 6, 3, -1}, {4, 4, 1, 2}, {4, 5, 2, -3},
            {4, 6, 1, 0}, {4, 6, 3, 3}, {4, 3, 2, 1}, {3, 2, 1, -1}};
        for (int[] setting : settings) {
            dueBestOrder(setting[0], setting[1], setting[2], setting[3]);
        }
    }

    private static final String[] CARDS = {"", "", ZEROS + "/" + ONES, ZEROS + "/" + ONES + "/" + RISING,
        ZEROS + "/" + ONES + "/" + RISING + "/" + FALLING};

    private static TiltedCards withOrder(int views, String order, int lean, int shift) {
        TiltedCards x = cardOf(CARDS[views] + ":" + order);
        x.setLean(lean);
        x.setShift(shift);
        return x;
    }

    // tries every order of slices, the least one first
    private static void dueBestOrder(int views, int pitch, int lean, int shift) {
        String best = "";
        int fewest = HIGH;
        for (int code = 0; code < Math.pow(views, pitch); code++) {
            String order = "";
            for (int s = 0, rest = code; s < pitch; s++, rest /= views) {
                order = rest % views + order;
            }
            boolean each = true;
            for (int v = 0; v < views; v++) {
                each &= order.indexOf('0' + v) >= 0;
            }
            if (each || pitch < views) {
                int ghosts = withOrder(views, order, lean, shift).count(4);
                if (ghosts < fewest) {
                    fewest = ghosts;
                    best = order;
                }
            }
        }
        TiltedCards x = withOrder(views, best, lean, shift);
        due("order() with " + best, x.order(), NONE);
        x.slice(0, 1);
        for (int s = 0; s < pitch; s++) {
            due("bestOrder(" + s + ") with " + best, x.bestOrder(s), best.charAt(s) - '0');
        }
        due("order() to " + best, x.order(), fewest);
        for (int s = 0; s < pitch; s++) {
            due("viewOf(" + s + ") with " + best, x.viewOf(s), best.charAt(s) - '0');
        }
    }

    private static void bestShift() {
        TiltedCards x = new TiltedCards();
        due("bestShift()", x.bestShift(), 0);
        x.setShift(3);
        due("bestShift()", x.bestShift(), 0);
        due("count(2)", x.count(2), 3);
        due("count(11)", x.count(11), 1);
        // a lean and an order for which another shift is the best, found by trying each of them
        int others = 0;
        for (int code = 0; code < 64; code++) {
            String order = "" + code / 32 % 2 + code / 16 % 2 + code / 8 % 2 + code / 4 % 2 + code / 2 % 2 + code % 2;
            TiltedCards y = cardOf(ONES + "/" + ONES + ":" + order);
            y.setLean(1 + code % 3);
            int best = y.bestShift();
            int want = shiftByTrying(y);
            due("bestShift() with " + order, best, want);
            if (want != 0) {
                others++;
            }
        }
        due("orders with another best shift are there", others > 0 ? 1 : 0, 1);
    }

    private static int shiftByTrying(TiltedCards x) {
        int[] shifts = {0, -1, 1, -2, 2, -3, 3};
        int best = 0;
        int fewest = HIGH;
        for (int shift : shifts) {
            x.setShift(shift);
            if (x.count(4) < fewest) {
                fewest = x.count(4);
                best = shift;
            }
        }
        return best;
    }

    private static void ifSlice() {
        TiltedCards x = cardOf(ONES + "/" + ONES + ":0011");
        due("ifSlice(0, 1)", x.ifSlice(0, 1), 0);
        x.setLean(3);
        due("ifSlice(0, 0)", x.ifSlice(0, 0), x.count(4));
        for (int s = 0; s < 4; s++) {
            for (int v = 0; v < 2; v++) {
                int told = x.ifSlice(s, v);
                dueOrder(x, 0, 0, 1, 1);
                x.slice(s, v);
                due("ifSlice(" + s + ", " + v + ")", told, x.count(4));
                x.slice(s, s / 2);
            }
        }
        x.setShift(1);
        x.order();
        due("ifSlice(1, 1)", x.ifSlice(1, 1), 124);
        due("ifSlice(4, 0)", x.ifSlice(4, 0), UNKNOWN);
        due("ifSlice(-1, 0)", x.ifSlice(-1, 0), UNKNOWN);
        due("ifSlice(0, 2)", x.ifSlice(0, 2), UNKNOWN);
        due("ifSlice(0, -1)", x.ifSlice(0, -1), UNKNOWN);
        due("ifSlice(LOW, HIGH)", x.ifSlice(LOW, HIGH), UNKNOWN);
        due("count(4)", x.count(4), 76);
        due("count(11)", x.count(11), 4);
    }

    private static void count() {
        TiltedCards x = cardOf(RISING + "/" + FALLING + "/" + ONES + ":0012");
        due("press(7)", x.press(7), 7);
        x.setLean(1);
        x.setShift(-1);
        due("press(2)", x.press(2), 0);
        x.type('1');
        // the places are due one further on: the slices 0 1 2, then 0 of the next ridge
        // step 0: 0 ten times, 1 twice; step 1: 0 thrice, 1 seven times, 2 twice
        // step 2: 1 thrice, 2 seven times, 0, nothing; step 3: 2 thrice, 0 eight times, nothing
        due("at(-9, 0)", x.at(-9, 0), 2);
        due("at(0, 0)", x.at(0, 0), 4);
        due("at(1, 0)", x.at(1, 0), 5);
        due("at(9, 0)", x.at(9, 0), 4);
        dueCounts(x, 3, 4, -1, 1, 5 * 2 + 5 * 4 + 5 * 5 + 4 * 4, 0, 0, 9, 7, 2, 63, 4, 44);
        x.setLean(0);
        // nothing is at the last place of the last ridge alone
        dueCounts(x, 3, 4, -1, 0, 4 * 2, 15, 3, 9, 7, 2, 63, 4, 44);
        x.slice(2, 0);
        due("count(5)", x.count(5), 15);
        due("count(6)", x.count(6), 2);
        due("count(13)", x.count(13), BAD_VALUE);
        due("count(-1)", x.count(-1), BAD_VALUE);
        due("count(HIGH)", x.count(HIGH), BAD_VALUE);
        due("count(LOW)", x.count(LOW), BAD_VALUE);
    }

    public static void main(String[] args) {
        for (promise = 1; promise <= 27; promise++) {
            switch (promise) {
                case 1: newObject(); break;
                case 2: colour(); break;
                case 3: addView(); break;
                case 4: removeView(); break;
                case 5: swap(); break;
                case 6: setPitch(); break;
                case 7: slice(); break;
                case 8: setShift(); break;
                case 9: setLean(); break;
                case 10: order(); break;
                case 11: read(); break;
                case 12: press(); break;
                case 13: typing(); break;
                case 14: clearText(); break;
                case 15: undo(); break;
                case 16: keep(); break;
                case 17: restore(); break;
                case 18: colourOf(); break;
                case 19: viewOf(); break;
                case 20: behind(); break;
                case 21: seen(); break;
                case 22: at(); break;
                case 23: view(); break;
                case 24: bestOrder(); break;
                case 25: bestShift(); break;
                case 26: ifSlice(); break;
                default: count(); break;
            }
        }
        System.out.println(wrong == 0 ? "all promises hold" : wrong + " answers are not as due");
        if (wrong != 0) {
            System.exit(1);
        }
    }
}
