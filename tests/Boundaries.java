// Each sentence of the document that names a boundary: the least and the greatest that is allowed and what lies
// just beyond, the empty and the full, places beyond the ends of the card, numbers that begin again at 0.
// A wrong answer is told together with the sentence. What refused calls leave as it was is in Refusals.java.
public final class Boundaries {
    private static final int UNKNOWN = -101;
    private static final int BAD_VALUE = -102;
    private static final int FULL = -103;
    private static final int NOT_POSSIBLE = -104;
    private static final int NONE = -105;
    private static final int LOW = Integer.MIN_VALUE;
    private static final int HIGH = Integer.MAX_VALUE;

    private static final String ROW = "012345678909";
    private static final String[] CARDS = {"", ROW, ROW + "/987654321090", ROW + "/987654321090/111111111111",
        ROW + "/987654321090/111111111111/909090909091"};

    private static int wrong = 0;
    private static String sentence = "";

    private static void said(String words) {
        sentence = words;
    }

    private static void due(String call, int got, int want) {
        if (got != want) {
            wrong++;
            System.out.println("\"" + sentence + "\" " + call + " answered " + got + ", due is " + want);
        }
    }

    private static void dueKnown(String call, int got, boolean known) {
        if (known == (got == UNKNOWN)) {
            wrong++;
            System.out.println("\"" + sentence + "\" " + call + " answered " + got
                + (known ? ", but it is known" : ", due is UNKNOWN"));
        }
    }

    private static void type(TiltedCards x, String text) {
        for (int i = 0; i < text.length(); i++) {
            x.type(text.charAt(i));
        }
    }

    private static int readOf(TiltedCards x, String text) {
        x.clearText();
        type(x, text);
        return x.read();
    }

    private static TiltedCards cardOf(String text) {
        TiltedCards x = new TiltedCards();
        readOf(x, text);
        return x;
    }

    private static TiltedCards cardOf(String text, int lean, int shift) {
        TiltedCards x = cardOf(text);
        x.setLean(lean);
        x.setShift(shift);
        return x;
    }

    private static TiltedCards withViews(int views, int pitch) {
        TiltedCards x = new TiltedCards();
        x.setPitch(pitch);
        for (int v = 2; v < views; v++) {
            x.addView();
        }
        return x;
    }

    private static void dueOrder(TiltedCards x, String views) {
        for (int s = 0; s < views.length(); s++) {
            due("viewOf(" + s + ") of " + views, x.viewOf(s), views.charAt(s) - '0');
        }
        due("viewOf(" + views.length() + ")", x.viewOf(views.length()), UNKNOWN);
    }

    private static void dueRow(TiltedCards x, int view, String digits) {
        for (int c = 0; c < 12; c++) {
            due("colourOf(" + view + ", " + c + ")", x.colourOf(view, c), digits.charAt(c) - '0');
        }
    }

    // the least and the greatest number that is known, and those beyond them
    private static int[] around(int low, int high) {
        return new int[] {LOW, low - 1, low, high, high + 1, HIGH};
    }

    private static boolean within(int number, int low, int high) {
        return number >= low && number <= high;
    }

    // ---- VIEWS

    private static void views() {
        said("There are 2 to 4 views, numbered from 0 (2 at first).");
        TiltedCards x = new TiltedCards();
        due("count(0)", x.count(0), 2);
        due("removeView(0)", x.removeView(0), NOT_POSSIBLE);
        due("addView()", x.addView(), 3);
        due("addView()", x.addView(), 4);
        due("addView()", x.addView(), FULL);
        due("count(0)", x.count(0), 4);
        due("removeView(3)", x.removeView(3), 3);
        due("removeView(0)", x.removeView(0), 2);
        due("removeView(1)", x.removeView(1), NOT_POSSIBLE);
        due("count(0)", x.count(0), 2);
        for (int views = 2; views <= 4; views++) {
            for (int v : around(0, views - 1)) {
                knownView(views, v, within(v, 0, views - 1));
            }
        }
    }

    private static void knownView(int views, int v, boolean known) {
        TiltedCards x = withViews(views, 6);
        dueKnown("colourOf(" + v + ", 0)", x.colourOf(v, 0), known);
        dueKnown("view(" + v + ", 0)", x.view(v, 0), known);
        dueKnown("ifSlice(0, " + v + ")", x.ifSlice(0, v), known);
        dueKnown("colour(" + v + ", 0, 1)", x.colour(v, 0, 1), known);
        dueKnown("slice(0, " + v + ")", x.slice(0, v), known);
        dueKnown("swap(" + v + ", 1)", x.swap(v, 1), known);
        dueKnown("swap(1, " + v + ")", x.swap(1, v), known);
        dueKnown("removeView(" + v + ")", x.removeView(v), known);
    }

    private static void columns() {
        said("A view is a row of 12 columns, 0 to 11");
        for (int c : around(0, 11)) {
            TiltedCards x = withViews(4, 2);
            for (int v = 0; v < 4; v++) {
                dueKnown("colourOf(" + v + ", " + c + ")", x.colourOf(v, c), within(c, 0, 11));
                dueKnown("colour(" + v + ", " + c + ", 7)", x.colour(v, c, 7), within(c, 0, 11));
            }
        }
        said("each with a colour from 0 to 9 (0 at first)");
        for (int v = 0; v < 4; v++) {
            TiltedCards x = withViews(4, 2);
            dueRow(x, v, "000000000000");
            due("colour(" + v + ", 11, 9)", x.colour(v, 11, 9), 0);
            for (int colour : new int[] {LOW, -1, 10, HIGH}) {
                due("colour(" + v + ", 11, " + colour + ")", x.colour(v, 11, colour), BAD_VALUE);
            }
            dueRow(x, v, "000000000009");
            due("colour(" + v + ", 11, 0)", x.colour(v, 11, 0), 9);
            // a column at the end of a row is none of the row beside it
            for (int other = 0; other < 4; other++) {
                dueRow(x, other, "000000000000");
            }
        }
        said("there are as many ridges as columns, one in front of each");
        for (int r : around(0, 11)) {
            TiltedCards x = new TiltedCards();
            for (int what = 0; what < 3; what++) {
                dueKnown("behind(" + r + ", 0, " + what + ")", x.behind(r, 0, what), within(r, 0, 11));
            }
            for (int what = 0; what < 4; what++) {
                dueKnown("seen(0, " + r + ", " + what + ")", x.seen(0, r, what), within(r, 0, 11));
            }
        }
    }

    // ---- SLICES

    private static void pitches() {
        said("slices side by side, as many as the pitch tells (2 to 6; 2 at first)");
        TiltedCards x = new TiltedCards();
        due("count(1)", x.count(1), 2);
        due("setPitch(1)", x.setPitch(1), BAD_VALUE);
        due("setPitch(2)", x.setPitch(2), NONE);
        due("setPitch(6)", x.setPitch(6), 2);
        due("setPitch(6)", x.setPitch(6), NONE);
        due("setPitch(7)", x.setPitch(7), BAD_VALUE);
        due("setPitch(0)", x.setPitch(0), BAD_VALUE);
        due("setPitch(-2)", x.setPitch(-2), BAD_VALUE);
        due("setPitch(LOW)", x.setPitch(LOW), BAD_VALUE);
        due("setPitch(HIGH)", x.setPitch(HIGH), BAD_VALUE);
        due("setPitch(2)", x.setPitch(2), 6);
        for (int pitch = 2; pitch <= 6; pitch++) {
            for (int s : around(0, pitch - 1)) {
                knownSlice(pitch, s, within(s, 0, pitch - 1));
            }
        }
        said("numbered from 0 from the left");
        for (int pitch = 2; pitch <= 6; pitch++) {
            TiltedCards y = cardOf(CARDS[4] + ":" + "012301".substring(0, pitch - 1) + "3");
            due("seen(-9, 0, 0)", y.seen(-9, 0, 0), 0);
            due("seen(9, 0, 0)", y.seen(9, 0, 0), 3);
        }
    }

    private static void knownSlice(int pitch, int s, boolean known) {
        TiltedCards x = withViews(2, pitch);
        dueKnown("viewOf(" + s + ") of " + pitch, x.viewOf(s), known);
        for (int what = 0; what < 3; what++) {
            dueKnown("behind(11, " + s + ", " + what + ") of " + pitch, x.behind(11, s, what), known);
        }
        dueKnown("bestOrder(" + s + ") of " + pitch, x.bestOrder(s), known);
        dueKnown("ifSlice(" + s + ", 1) of " + pitch, x.ifSlice(s, 1), known);
        dueKnown("slice(" + s + ", 0) of " + pitch, x.slice(s, 0), known);
        dueKnown("slice(" + s + ", 1) of " + pitch, x.slice(s, 1), known);
    }

    private static final String[] USUAL = {"", "", "010101", "012012", "012301"};

    private static void usualOrders() {
        said("the slice s shows the view s, modulo how many views there are");
        dueOrder(new TiltedCards(), "01");
        for (int views = 2; views <= 4; views++) {
            for (int pitch = 2; pitch <= 6; pitch++) {
                String usual = USUAL[views].substring(0, pitch);
                int otherPitch = pitch == 6 ? 5 : 6;
                TiltedCards x = cardOf(CARDS[views] + ":" + "111111".substring(0, otherPitch));
                x.setPitch(pitch);
                dueOrder(x, usual);
                x.slice(0, 1);
                if (views < 4) {
                    x.addView();
                    dueOrder(x, USUAL[views + 1].substring(0, pitch));
                    x.slice(0, views);
                    x.removeView(0);
                    dueOrder(x, usual);
                    x.slice(pitch - 1, 0);
                }
                readOf(x, CARDS[views]);
                dueOrder(x, usual);
                dueOrder(withViews(views, pitch), usual);
            }
        }
        said("(At first, and whenever the pitch is changed, or a view is added or removed) and not otherwise");
        TiltedCards x = cardOf(CARDS[4] + ":3223");
        x.addView();
        x.setPitch(4);
        x.setPitch(7);
        x.removeView(4);
        x.swap(2, 3);
        x.setShift(3);
        x.setLean(3);
        x.colour(3, 0, 8);
        x.press(1);
        x.read();
        dueOrder(x, "3223");
        TiltedCards y = cardOf(CARDS[2] + ":10");
        y.removeView(0);
        dueOrder(y, "10");
    }

    private static void shifts() {
        said("the shift (-3 to 3; 0 at first)");
        TiltedCards x = new TiltedCards();
        due("count(2)", x.count(2), 0);
        due("setShift(0)", x.setShift(0), NONE);
        due("setShift(-4)", x.setShift(-4), BAD_VALUE);
        due("setShift(-3)", x.setShift(-3), 0);
        due("setShift(-3)", x.setShift(-3), NONE);
        due("setShift(3)", x.setShift(3), -3);
        due("setShift(4)", x.setShift(4), BAD_VALUE);
        due("setShift(LOW)", x.setShift(LOW), BAD_VALUE);
        due("setShift(HIGH)", x.setShift(HIGH), BAD_VALUE);
        due("count(2)", x.count(2), 3);
        said("moves all slices to the right (to the left, if it is below 0) by so many");
        String[] orders = {"", "", "31", "120", "3120", "31200", "312001"};
        for (int pitch = 2; pitch <= 6; pitch++) {
            for (int shift = -3; shift <= 3; shift++) {
                wholeStrip(orders[pitch], shift);
            }
        }
    }

    // lays all slices of the card side by side, and each of them anew where the press puts it
    private static void wholeStrip(String order, int shift) {
        int pitch = order.length();
        int[] views = new int[12 * pitch];
        int[] ridges = new int[12 * pitch];
        java.util.Arrays.fill(views, NONE);
        java.util.Arrays.fill(ridges, NONE);
        for (int from = 0; from < 12 * pitch; from++) {
            if (within(from + shift, 0, 12 * pitch - 1)) {
                views[from + shift] = order.charAt(from % pitch) - '0';
                ridges[from + shift] = from / pitch;
            }
        }
        TiltedCards x = cardOf(CARDS[4] + ":" + order, 0, shift);
        String[] rows = CARDS[4].split("/");
        for (int at = 0; at < 12 * pitch; at++) {
            int r = at / pitch;
            int s = at % pitch;
            String place = "behind(" + r + ", " + s + ", ..) with the shift " + shift + " of " + order;
            due(place, x.behind(r, s, 0), views[at]);
            due(place, x.behind(r, s, 1), views[at] == NONE ? NONE : rows[views[at]].charAt(ridges[at]) - '0');
            due(place, x.behind(r, s, 2), ridges[at]);
        }
    }

    private static void beyond() {
        said("those below 0 are the last ones of the ridge to the left (and so on)");
        TiltedCards x = cardOf(CARDS[3] + ":210", 0, 1);
        due("behind(5, 0, 0)", x.behind(5, 0, 0), 0);
        due("behind(5, 0, 1)", x.behind(5, 0, 1), 4);
        due("behind(5, 0, 2)", x.behind(5, 0, 2), 4);
        due("behind(5, 1, 0)", x.behind(5, 1, 0), 2);
        due("behind(5, 1, 2)", x.behind(5, 1, 2), 5);
        x.setShift(3);
        due("behind(5, 0, 2)", x.behind(5, 0, 2), 4);
        due("behind(5, 2, 2)", x.behind(5, 2, 2), 4);
        due("behind(5, 2, 0)", x.behind(5, 2, 0), 0);
        x.setPitch(2);
        due("behind(5, 0, 2)", x.behind(5, 0, 2), 3);
        due("behind(5, 0, 0)", x.behind(5, 0, 0), 1);
        due("behind(5, 1, 2)", x.behind(5, 1, 2), 4);
        due("behind(5, 1, 0)", x.behind(5, 1, 0), 0);
        said("those from the pitch on the first ones of the ridge to the right");
        x = cardOf(CARDS[3] + ":210", 0, -1);
        due("behind(5, 1, 2)", x.behind(5, 1, 2), 5);
        due("behind(5, 2, 0)", x.behind(5, 2, 0), 2);
        due("behind(5, 2, 1)", x.behind(5, 2, 1), 1);
        due("behind(5, 2, 2)", x.behind(5, 2, 2), 6);
        x.setShift(-3);
        due("behind(5, 0, 2)", x.behind(5, 0, 2), 6);
        x.setPitch(2);
        due("behind(5, 0, 2)", x.behind(5, 0, 2), 6);
        due("behind(5, 1, 2)", x.behind(5, 1, 2), 7);
        due("behind(5, 1, 0)", x.behind(5, 1, 0), 0);
        said("beyond the ends of the card there is nothing");
        for (int what = 0; what < 3; what++) {
            TiltedCards y = cardOf(CARDS[4] + ":0123", 0, 3);
            due("behind(0, 2, " + what + ") with 3", y.behind(0, 2, what), NONE);
            y.setShift(-3);
            due("behind(11, 1, " + what + ") with -3", y.behind(11, 1, what), NONE);
            y.setPitch(2);
            due("behind(10, 1, " + what + ") with -3", y.behind(10, 1, what), NONE);
            due("behind(11, 0, " + what + ") with -3", y.behind(11, 0, what), NONE);
            y.setShift(3);
            due("behind(0, 1, " + what + ") with 3", y.behind(0, 1, what), NONE);
            due("behind(1, 0, " + what + ") with 3", y.behind(1, 0, what), NONE);
        }
        TiltedCards y = cardOf(CARDS[4] + ":0123", 0, 3);
        due("behind(0, 3, 2)", y.behind(0, 3, 2), 0);
        due("behind(0, 3, 0)", y.behind(0, 3, 0), 0);
        y.setShift(-3);
        due("behind(11, 0, 2)", y.behind(11, 0, 2), 11);
        due("behind(11, 0, 0)", y.behind(11, 0, 0), 3);
        due("behind(0, 0, 0)", y.behind(0, 0, 0), 3);
        y.setShift(0);
        for (int s = 0; s < 4; s++) {
            due("behind(0, " + s + ", 0)", y.behind(0, s, 0), s);
            due("behind(11, " + s + ", 2)", y.behind(11, s, 2), 11);
        }
    }

    // ---- ANGLES

    // the least angle at which each place but the first is told, for the pitches from 2 on
    private static final int[][] STARTS = {{1}, {-2, 4}, {-4, 1, 6}, {-5, -1, 3, 7}, {-5, -2, 1, 4, 7}};
    // what a ridge adds to the place, for each lean
    private static final int[][] ADDED = {
        {0, 0, 0, 0, 0, 0, 0, 0, 0, 0, 0, 0},
        {-1, -1, -1, 0, 0, 0, 0, 0, 0, 0, 1, 1},
        {-3, -2, -2, -1, -1, 0, 0, 0, 1, 1, 2, 2},
        {-4, -3, -3, -2, -1, 0, 0, 0, 1, 2, 3, 3}};

    private static int placeDue(int pitch, int lean, int angle, int ridge) {
        int place = 0;
        for (int start : STARTS[pitch - 2]) {
            place += angle >= start ? 1 : 0;
        }
        place += ADDED[lean][ridge];
        return place < 0 ? 0 : place > pitch - 1 ? pitch - 1 : place;
    }

    private static void angles() {
        said("Angles are -9 to 9.");
        for (int a : around(-9, 9)) {
            TiltedCards x = new TiltedCards();
            for (int what = 0; what < 4; what++) {
                dueKnown("seen(" + a + ", 11, " + what + ")", x.seen(a, 11, what), within(a, -9, 9));
            }
            for (int what = 0; what < 5; what++) {
                dueKnown("at(" + a + ", " + what + ")", x.at(a, what), within(a, -9, 9));
            }
        }
        said("the lean (the setting 0; 0 to 3; 0 at first)");
        TiltedCards x = new TiltedCards();
        due("count(3)", x.count(3), 0);
        due("setLean(-1)", x.setLean(-1), BAD_VALUE);
        due("setLean(0)", x.setLean(0), NONE);
        due("setLean(3)", x.setLean(3), 0);
        due("setLean(3)", x.setLean(3), NONE);
        due("setLean(4)", x.setLean(4), BAD_VALUE);
        due("setLean(LOW)", x.setLean(LOW), BAD_VALUE);
        due("setLean(HIGH)", x.setLean(HIGH), BAD_VALUE);
        due("count(3)", x.count(3), 3);
        said("divided by 19, rounded down; .. divided by 4, rounded towards 0; below 0 the place is 0, "
            + "above p - 1 it is p - 1");
        for (int pitch = 2; pitch <= 6; pitch++) {
            for (int lean = 0; lean <= 3; lean++) {
                TiltedCards y = withViews(2, pitch);
                y.setLean(lean);
                for (int a = -9; a <= 9; a++) {
                    for (int r = 0; r < 12; r++) {
                        due("seen(" + a + ", " + r + ", 2) with the pitch " + pitch + " and the lean " + lean,
                            y.seen(a, r, 2), placeDue(pitch, lean, a, r));
                    }
                }
            }
        }
        said("below 0 the place is 0, above p - 1 it is p - 1: before the shift, which is of the press");
        TiltedCards z = cardOf(CARDS[4] + ":012301", 3, 3);
        due("seen(-9, 0, 2)", z.seen(-9, 0, 2), 0);
        due("seen(-9, 0, 0)", z.seen(-9, 0, 0), NONE);
        due("seen(-9, 1, 0)", z.seen(-9, 1, 0), 3);
        due("seen(9, 11, 2)", z.seen(9, 11, 2), 5);
        due("seen(9, 11, 0)", z.seen(9, 11, 0), 2);
    }

    private static void ghosts() {
        said("A ridge is a ghost at an angle if a ridge beside it shows another view (nothing counts as another one).");
        // the ridge 0 shows nothing, all others the view 1
        TiltedCards x = cardOf(CARDS[2] + ":01", 0, 1);
        dueGhosts(x, -9, "110000000000");
        // the ridge 11 shows nothing, all others the view 0
        x.setShift(-1);
        dueGhosts(x, 9, "000000000011");
        // two ridges beside one another show nothing
        x.setShift(3);
        dueGhosts(x, -9, "011000000000");
        dueGhosts(x, 9, "110000000000");
        x.setShift(-3);
        dueGhosts(x, 9, "000000000110");
        dueGhosts(x, -9, "000000000011");
        // the ridges 0 and 11 show unlike views, and are not beside one another
        x = cardOf(CARDS[2] + ":000111", 3, 0);
        due("seen(1, 0, 0)", x.seen(1, 0, 0), 0);
        due("seen(1, 11, 0)", x.seen(1, 11, 0), 1);
        dueGhosts(x, 1, "000011000000");
        // the views 2 2 2 0 1 0 0 0 0 1 1 1: the ridges 3 and 4 show another one than both beside them
        x = cardOf(CARDS[3] + ":201001", 3, 0);
        due("seen(1, 4, 0)", x.seen(1, 4, 0), 1);
        dueGhosts(x, 1, "001111001100");
        // unlike places and colours of the same view are no ghosts
        x = cardOf(CARDS[2] + ":111111", 3, 0);
        dueGhosts(x, 0, "000000000000");
        // unlike views with the same colours are ghosts
        x = cardOf("111111111111/111111111111:000111", 3, 0);
        dueGhosts(x, 1, "000011000000");
    }

    private static void dueGhosts(TiltedCards x, int angle, String ghosts) {
        int all = 0;
        for (int r = 0; r < 12; r++) {
            due("seen(" + angle + ", " + r + ", 3)", x.seen(angle, r, 3), ghosts.charAt(r) - '0');
            all += ghosts.charAt(r) - '0';
        }
        due("at(" + angle + ", 0)", x.at(angle, 0), all);
    }

    private static void whole() {
        said("A view is shown whole at an angle, if all 12 ridges show it.");
        TiltedCards x = new TiltedCards();
        due("at(-9, 3)", x.at(-9, 3), 12);
        due("at(-9, 1)", x.at(-9, 1), 0);
        due("count(5)", x.count(5), 19);
        x.setShift(1);
        due("at(-9, 3)", x.at(-9, 3), 11);
        due("at(-9, 1)", x.at(-9, 1), NONE);
        due("at(1, 1)", x.at(1, 1), 0);
        due("view(1, 1)", x.view(1, 1), 0);
        due("view(0, 1)", x.view(0, 1), 9);
        due("count(5)", x.count(5), 9);
        due("count(6)", x.count(6), 1);
        x.setShift(-1);
        due("at(0, 3)", x.at(0, 3), 12);
        due("at(0, 1)", x.at(0, 1), 1);
        due("at(9, 3)", x.at(9, 3), 11);
        due("at(9, 1)", x.at(9, 1), NONE);
        // with shifts of 2 and 3 each place of one end lies beyond the card
        x.setShift(2);
        due("count(5)", x.count(5), 0);
        due("count(6)", x.count(6), 0);
        // a view that is shown whole at each angle
        x = cardOf(CARDS[2] + ":111111", 3, 0);
        due("view(1, 1)", x.view(1, 1), 19);
        due("view(0, 1)", x.view(0, 1), 0);
        due("count(5)", x.count(5), 19);
        due("count(6)", x.count(6), 1);
        // the ridge 11 alone shows another one
        x = cardOf(CARDS[2] + ":000001", 3, 0);
        due("at(-4, 1)", x.at(-4, 1), 0);
        due("at(-2, 1)", x.at(-2, 1), NONE);
        due("at(-2, 3)", x.at(-2, 3), 10);
    }

    // ---- PRESSING

    private static void pressing() {
        said("each costs 3, and 1 for each slice of the pitch");
        for (int pitch = 2; pitch <= 6; pitch++) {
            TiltedCards x = withViews(2, pitch);
            x.press(1);
            due("count(10) with the pitch " + pitch, x.count(10), 3 + pitch);
            x.press(999);
            due("count(10) with the pitch " + pitch, x.count(10), 1000 * (3 + pitch));
        }
        said("is good if each view is shown whole at some angle, otherwise spoiled");
        // a view is shown whole at three angles alone
        TiltedCards x = cardOf(CARDS[2] + ":011111");
        due("press(2)", x.press(2), 2);
        x = cardOf(CARDS[2] + ":111101");
        due("view(0, 1)", x.view(0, 1), 3);
        due("press(2)", x.press(2), 2);
        x.slice(4, 1);
        due("press(3)", x.press(3), 0);
        due("count(8)", x.count(8), 2);
        due("count(9)", x.count(9), 3);
        // one of four views is left out, or none
        x = cardOf(CARDS[4] + ":012012");
        due("press(1)", x.press(1), 0);
        x.slice(5, 3);
        due("press(1)", x.press(1), 1);
        // with the shift -1 the slice 0, with 1 the slice 5 is not behind all ridges
        x = cardOf(CARDS[4] + ":312012");
        due("press(1)", x.press(1), 1);
        x.setShift(1);
        due("press(1)", x.press(1), 1);
        x.setShift(-1);
        due("press(1)", x.press(1), 0);
        said("cards: 1 to 999");
        TiltedCards y = new TiltedCards();
        for (int cards : new int[] {LOW, -1, 0, 1000, HIGH}) {
            due("press(" + cards + ")", y.press(cards), BAD_VALUE);
        }
        due("count(7)", y.count(7), 0);
        due("press(1)", y.press(1), 1);
        due("press(999)", y.press(999), 999);
        said("FULL if more than 99999 would have been pressed");
        y = new TiltedCards();
        for (int i = 0; i < 99; i++) {
            y.press(999);
        }
        due("press(99)", y.press(99), 99);
        due("count(7)", y.count(7), 99000);
        due("press(999)", y.press(999), 999);
        due("press(1)", y.press(1), FULL);
        due("press(999)", y.press(999), FULL);
        due("count(7)", y.count(7), 99999);
        due("undo()", y.undo(), 3);
        due("press(1)", y.press(1), 1);
        due("press(999)", y.press(999), FULL);
        due("press(998)", y.press(998), 998);
        due("count(7)", y.count(7), 99999);
        due("count(10)", y.count(10), 5 * 99999);
    }

    // ---- TEXTS

    private static void texts() {
        said("There is a text of at most 80 characters, empty at first.");
        TiltedCards x = new TiltedCards();
        due("count(12)", x.count(12), 0);
        due("clearText()", x.clearText(), 0);
        for (int i = 1; i <= 80; i++) {
            due("type('/')", x.type('/'), i);
        }
        due("type('/')", x.type('/'), FULL);
        due("type(0)", x.type((char) 0), FULL);
        due("count(12)", x.count(12), 80);
        due("clearText()", x.clearText(), 80);
        due("count(12)", x.count(12), 0);
        due("clearText()", x.clearText(), 0);
        due("type('1')", x.type('1'), 1);
        said("character: any character");
        for (char c : new char[] {0, '\n', ' ', 127, 128, 255, 256, 304, 0xD800, 65535}) {
            TiltedCards y = new TiltedCards();
            due("type(" + (int) c + ")", y.type(c), 1);
            due("read() of " + (int) c, y.read(), -200);
        }
        said("which stays");
        x = cardOf(CARDS[2] + ":01");
        due("count(12)", x.count(12), 28);
        due("read()", x.read(), 2);
        due("type('1')", x.type('1'), 29);
        due("read()", x.read(), 2);
        dueOrder(x, "011");
        due("type('x')", x.type('x'), 30);
        due("read()", x.read(), -229);
        due("count(12)", x.count(12), 30);
    }

    private static void lengths() {
        said("2 to 4 views with \"/\" between two, each 12 digits, and then perhaps \":\" and 2 to 6 digits");
        String longest = CARDS[4] + ":012301";
        for (int length = 0; length <= longest.length(); length++) {
            int want = -200 - length;
            if (length == 25) {
                want = 2;
            } else if (length == 38) {
                want = 3;
            } else if (length == 51 || length >= 54) {
                want = 4;
            }
            due("read() of the first " + length, readOf(new TiltedCards(), longest.substring(0, length)), want);
        }
        for (int views = 2; views <= 4; views++) {
            int colon = CARDS[views].length();
            due("no slice of " + views, readOf(new TiltedCards(), CARDS[views] + ":"), -200 - colon - 1);
            due("1 slice of " + views, readOf(new TiltedCards(), CARDS[views] + ":1"), -200 - colon - 2);
            due("2 slices of " + views, readOf(new TiltedCards(), CARDS[views] + ":10"), views);
            due("6 slices of " + views, readOf(new TiltedCards(), CARDS[views] + ":101010"), views);
            due("7 slices of " + views, readOf(new TiltedCards(), CARDS[views] + ":1010101"), -200 - colon - 7);
        }
        due("1 view", readOf(new TiltedCards(), CARDS[1]), -212);
        due("1 view with slices", readOf(new TiltedCards(), CARDS[1] + ":00"), -212);
        due("5 views", readOf(new TiltedCards(), CARDS[4] + "/" + ROW), -251);
        due("13 digits at first", readOf(new TiltedCards(), ROW + "0/" + ROW), -212);
        due("13 digits at last", readOf(new TiltedCards(), CARDS[2] + "0"), -225);
        due("11 digits", readOf(new TiltedCards(), ROW.substring(1) + "/" + ROW), -211);
        due("\"/\" at last", readOf(new TiltedCards(), CARDS[2] + "/"), -226);
        due("\":\" twice", readOf(new TiltedCards(), CARDS[2] + "::"), -226);
        due("\"/\" behind \":\"", readOf(new TiltedCards(), CARDS[2] + ":/"), -226);
        due("\":\" behind slices", readOf(new TiltedCards(), CARDS[2] + ":01:"), -228);
        due("\"/\" behind slices", readOf(new TiltedCards(), CARDS[2] + ":01/"), -228);
        due("\":\" behind \"/\"", readOf(new TiltedCards(), CARDS[2] + "/:"), -226);
        StringBuilder full = new StringBuilder(longest);
        while (full.length() < 80) {
            full.append('0');
        }
        due("80 characters", readOf(new TiltedCards(), full.toString()), -258);
        said("(the empty text does)");
        due("read()", new TiltedCards().read(), -200);
        TiltedCards x = cardOf(CARDS[2]);
        x.clearText();
        due("read()", x.read(), -200);
        said("each less than how many views there are");
        for (int views = 2; views <= 4; views++) {
            for (int digit = 0; digit <= 9; digit++) {
                for (int s = 0; s < 6; s++) {
                    String order = "000000".substring(0, s) + digit + "00000".substring(s);
                    int want = digit < views ? views : -200 - CARDS[views].length() - 1 - s;
                    due("read() of " + order, readOf(new TiltedCards(), CARDS[views] + ":" + order), want);
                }
            }
        }
    }

    private static void faults() {
        said("the index, from 0, of the first character that is not allowed at its place");
        String longest = CARDS[4] + ":012301";
        String strange = "/:;. -+axA" + (char) 0 + (char) 255 + (char) ('1' + 256) + (char) ('/' + 256)
            + (char) (':' + 256) + (char) 0x661 + (char) 65535;
        for (int i = 0; i < longest.length(); i++) {
            for (int k = 0; k < strange.length(); k++) {
                char c = strange.charAt(k);
                boolean endsViews = c == ':' && (i == 25 || i == 38);
                if (c != longest.charAt(i)) {
                    String text = longest.substring(0, i) + c + longest.substring(i + 1);
                    // digits behind ":" are slices: the ones are so until the seventh, a nine is not
                    int fault = !endsViews ? i : i == 25 ? 32 : 39;
                    due("read() of " + text, readOf(new TiltedCards(), text), -200 - fault);
                }
            }
        }
        for (int i : new int[] {12, 25, 38, 51}) {
            for (int digit = 0; digit <= 9; digit++) {
                String text = longest.substring(0, i) + digit + longest.substring(i + 1);
                due("read() of " + text, readOf(new TiltedCards(), text), -200 - i);
            }
        }
        due("two faults", readOf(new TiltedCards(), "1x1x"), -201);
        due("a fault behind a card", readOf(new TiltedCards(), CARDS[2] + ":01 "), -228);
        due("a fault before a card", readOf(new TiltedCards(), " " + CARDS[2]), -200);
    }

    private static void readCards() {
        said("the pitch is as many as these; without \":\" the pitch stays, and slices are as at first");
        for (int pitch = 2; pitch <= 6; pitch++) {
            for (int views = 2; views <= 4; views++) {
                TiltedCards x = cardOf(CARDS[4] + ":" + "333333".substring(0, pitch));
                due("count(1)", x.count(1), pitch);
                dueOrder(x, "333333".substring(0, pitch));
                due("read()", readOf(x, CARDS[views]), views);
                due("count(1)", x.count(1), pitch);
                dueOrder(x, USUAL[views].substring(0, pitch));
                due("count(0)", x.count(0), views);
                dueKnown("colourOf(" + views + ", 0)", x.colourOf(views, 0), false);
                String[] rows = CARDS[views].split("/");
                for (int v = 0; v < views; v++) {
                    dueRow(x, v, rows[v]);
                }
            }
        }
        said("shift and lean stay");
        for (int shift : new int[] {-3, 3}) {
            TiltedCards x = new TiltedCards();
            x.setShift(shift);
            x.setLean(3);
            readOf(x, CARDS[4] + ":01");
            due("count(2)", x.count(2), shift);
            due("count(3)", x.count(3), 3);
        }
    }

    // ---- HISTORY

    private static void history() {
        said("A history of at most 4 states is kept; when one more is recorded, the oldest one is dropped");
        TiltedCards x = new TiltedCards();
        due("count(11)", x.count(11), 0);
        due("undo()", x.undo(), NONE);
        for (int lean = 1; lean <= 3; lean++) {
            x.setLean(lean);
            due("count(11)", x.count(11), lean);
        }
        x.setLean(0);
        due("count(11)", x.count(11), 4);
        x.setLean(2);
        due("count(11)", x.count(11), 4);
        for (int left = 3; left >= 0; left--) {
            due("undo()", x.undo(), left);
            due("count(11)", x.count(11), left);
            due("count(3)", x.count(3), new int[] {1, 2, 3, 0}[left]);
        }
        due("undo()", x.undo(), NONE);
        due("count(3)", x.count(3), 1);
        // many more than 4, and back again
        for (int i = 0; i < 37; i++) {
            x.colour(0, 3, (i + 1) % 10);
        }
        due("count(11)", x.count(11), 4);
        due("colourOf(0, 3)", x.colourOf(0, 3), 7);
        for (int left = 3; left >= 0; left--) {
            due("undo()", x.undo(), left);
            due("colourOf(0, 3)", x.colourOf(0, 3), 3 + left);
        }
        due("undo()", x.undo(), NONE);
        said("undo() removes and restores the latest one");
        x.setPitch(6);
        x.undo();
        due("undo()", x.undo(), NONE);
        x.setPitch(5);
        due("undo()", x.undo(), 0);
        due("count(1)", x.count(1), 2);
    }

    private static void snapshot() {
        said("There is one snapshot, empty at first.");
        TiltedCards x = new TiltedCards();
        due("restore()", x.restore(), NONE);
        x.addView();
        x.undo();
        due("restore()", x.restore(), NONE);
        due("keep()", x.keep(), 2);
        due("restore()", x.restore(), 2);
        due("count(11)", x.count(11), 1);
        said("in place of the one that was");
        x.addView();
        x.addView();
        due("keep()", x.keep(), 4);
        x.removeView(0);
        due("restore()", x.restore(), 4);
        said("Restores the state of the snapshot, which stays.");
        x.colour(3, 11, 9);
        due("restore()", x.restore(), 4);
        due("colourOf(3, 11)", x.colourOf(3, 11), 0);
        x.colour(3, 11, 8);
        due("undo()", x.undo(), 3);
        due("undo()", x.undo(), 2);
        due("colourOf(3, 11)", x.colourOf(3, 11), 9);
        due("restore()", x.restore(), 4);
        due("colourOf(3, 11)", x.colourOf(3, 11), 0);
        said("A state is everything but the text, the history and the snapshot.");
        TiltedCards y = cardOf(CARDS[3] + ":2101", 3, -3);
        y.press(999);
        y.keep();
        readOf(y, CARDS[2]);
        y.setLean(0);
        y.setShift(0);
        y.press(1);
        y.type('a');
        due("restore()", y.restore(), 3);
        due("count(12)", y.count(12), 26);
        due("count(11)", y.count(11), 4);
        due("count(7)", y.count(7), 999);
        due("count(9)", y.count(9), 999);
        due("count(10)", y.count(10), 999 * 7);
        due("count(2)", y.count(2), -3);
        due("count(3)", y.count(3), 3);
        dueOrder(y, "2101");
        dueRow(y, 2, "111111111111");
        y.clearText();
        y.keep();
        due("undo()", y.undo(), 3);
        due("count(12)", y.count(12), 0);
        due("count(7)", y.count(7), 1000);
        due("count(0)", y.count(0), 2);
        due("restore()", y.restore(), 3);
    }

    // ---- what is told

    private static void whats() {
        said("what: 0 for .., BAD_VALUE");
        for (int what : around(0, 2)) {
            TiltedCards x = new TiltedCards();
            due("behind(0, 0, " + what + ") is known",
                x.behind(0, 0, what) == BAD_VALUE ? 0 : 1, within(what, 0, 2) ? 1 : 0);
        }
        for (int what : around(0, 3)) {
            TiltedCards x = new TiltedCards();
            int known = within(what, 0, 3) ? 1 : 0;
            due("seen(0, 0, " + what + ") is known", x.seen(0, 0, what) == BAD_VALUE ? 0 : 1, known);
            due("view(0, " + what + ") is known", x.view(0, what) == BAD_VALUE ? 0 : 1, known);
        }
        for (int what : around(0, 4)) {
            due("at(0, " + what + ") is known",
                new TiltedCards().at(0, what) == BAD_VALUE ? 0 : 1, within(what, 0, 4) ? 1 : 0);
        }
        for (int what : around(0, 12)) {
            due("count(" + what + ") is known",
                new TiltedCards().count(what) == BAD_VALUE ? 0 : 1, within(what, 0, 12) ? 1 : 0);
        }
    }

    // every setting of the eye and the press with some orders: what is told of angles and views, from what is seen
    private static void tallies() {
        String[] orders = {"01", "10", "33", "012", "221", "0123", "3210", "0110", "01010", "20133", "012301",
            "331100", "222222", "010203"};
        for (String order : orders) {
            for (int lean = 0; lean <= 3; lean++) {
                for (int shift = -3; shift <= 3; shift++) {
                    tally(order, lean, shift);
                }
            }
        }
    }

    private static void tally(String order, int lean, int shift) {
        String card = " of " + order + " with the lean " + lean + " and the shift " + shift;
        TiltedCards x = cardOf(CARDS[4] + ":" + order, lean, shift);
        // how many ridges show each view, and nothing last, at the angles from -9 on
        int[][] showing = new int[19][5];
        int[] ghosts = new int[19];
        for (int i = 0; i < 19; i++) {
            int[] shown = new int[12];
            for (int r = 0; r < 12; r++) {
                int view = x.seen(i - 9, r, 0);
                shown[r] = view == NONE ? 4 : view;
                showing[i][shown[r]]++;
            }
            for (int r = 0; r < 12; r++) {
                ghosts[i] += shown[r] != shown[Math.max(0, r - 1)] || shown[r] != shown[Math.min(11, r + 1)] ? 1 : 0;
            }
        }
        tallyOfAngles(x, card, showing, ghosts);
        tallyOfViews(x, card, showing, ghosts);
    }

    private static void tallyOfAngles(TiltedCards x, String card, int[][] showing, int[] ghosts) {
        int all = 0;
        int wholeAngles = 0;
        for (int i = 0; i < 19; i++) {
            int most = 0;
            for (int v = 1; v < 4; v++) {
                most = showing[i][v] > showing[i][most] ? v : most;
            }
            boolean whole = showing[i][most] == 12;
            wholeAngles += whole ? 1 : 0;
            all += ghosts[i];
            said("0 for ghosts, 1 for the view that is shown whole (NONE without one), 4 for ridges that show nothing");
            due("at(" + (i - 9) + ", 0)" + card, x.at(i - 9, 0), ghosts[i]);
            due("at(" + (i - 9) + ", 1)" + card, x.at(i - 9, 1), whole ? most : NONE);
            due("at(" + (i - 9) + ", 4)" + card, x.at(i - 9, 4), showing[i][4]);
            said("2 for the view that most ridges show (of several the lowest; NONE if all show nothing)");
            // no more than two ridges show nothing, so NONE is never due
            due("at(" + (i - 9) + ", 4) <= 2" + card, showing[i][4] <= 2 ? 1 : 0, 1);
            due("at(" + (i - 9) + ", 2)" + card, x.at(i - 9, 2), most);
            due("at(" + (i - 9) + ", 3)" + card, x.at(i - 9, 3), showing[i][most]);
        }
        said("4 for ghosts at all angles together, 5 for angles at which a view is shown whole");
        due("count(4)" + card, x.count(4), all);
        due("count(5)" + card, x.count(5), wholeAngles);
    }

    private static void tallyOfViews(TiltedCards x, String card, int[][] showing, int[] ghosts) {
        int wholeViews = 0;
        for (int v = 0; v < 4; v++) {
            int angles = 0;
            int best = 0;
            for (int i = 0; i < 19; i++) {
                angles += showing[i][v] == 12 ? 1 : 0;
                int more = showing[i][v] - showing[best][v];
                best = more > 0 || more == 0 && ghosts[i] < ghosts[best] ? i : best;
            }
            wholeViews += angles > 0 ? 1 : 0;
            said("its clearest angle: that at which most ridges show it, of several that with the fewest ghosts, "
                + "of these the lowest");
            due("view(" + v + ", 1)" + card, x.view(v, 1), angles);
            due("view(" + v + ", 2)" + card, x.view(v, 2), best - 9);
            due("view(" + v + ", 3)" + card, x.view(v, 3), showing[best][v]);
        }
        said("6 for views that are shown whole at some angle");
        due("count(6)" + card, x.count(6), wholeViews);
    }

    private static void slicesOfViews() {
        said("0 for slices that show it");
        TiltedCards x = cardOf(CARDS[4] + ":333331");
        due("view(0, 0)", x.view(0, 0), 0);
        due("view(1, 0)", x.view(1, 0), 1);
        due("view(3, 0)", x.view(3, 0), 5);
        x.slice(5, 3);
        due("view(3, 0)", x.view(3, 0), 6);
        due("view(1, 0)", x.view(1, 0), 0);
        // slices of a greater pitch that was are told no more
        x.setPitch(2);
        due("view(0, 0)", x.view(0, 0), 1);
        due("view(1, 0)", x.view(1, 0), 1);
        due("view(2, 0)", x.view(2, 0), 0);
        due("view(3, 0)", x.view(3, 0), 0);
    }

    private static void bestOrders() {
        said("of those in which each view has a slice or more, if there are enough slices (otherwise of all)");
        String[][] best = {
            {}, {},
            {"", "", "01", "001", "0001", "00001", "000001"},
            {"", "", "00", "012", "0012", "00012", "000012"},
            {"", "", "00", "000", "0123", "00123", "000123"}};
        for (int views = 2; views <= 4; views++) {
            for (int pitch = 2; pitch <= 6; pitch++) {
                // without lean and shift no order makes ghosts, and the least one is told
                TiltedCards x = withViews(views, pitch);
                for (int s = 0; s < pitch; s++) {
                    due("bestOrder(" + s + ")", x.bestOrder(s), best[views][pitch].charAt(s) - '0');
                }
                due("bestOrder(" + pitch + ")", x.bestOrder(pitch), UNKNOWN);
            }
        }
        // all slices of one view would make fewer ghosts, but there are as many slices as views
        TiltedCards x = cardOf(CARDS[4] + ":3210", 3, 0);
        due("order()", x.order() > 0 ? 1 : 0, 1);
        for (int v = 0; v < 4; v++) {
            due("view(" + v + ", 0)", x.view(v, 0), 1);
        }
        x.slice(1, x.viewOf(0));
        x.slice(2, x.viewOf(0));
        x.slice(3, x.viewOf(0));
        due("count(4)", x.count(4), 0);
        said("Returns the ghosts at all angles then; NONE if it is so already.");
        x = cardOf(CARDS[4] + ":210");
        due("order()", x.order(), 0);
        dueOrder(x, "000");
        due("order()", x.order(), NONE);
    }

    // each found by trying all orders, the least one first
    private static void bestOrdersAskew() {
        said("the order of slices with the fewest ghosts at all angles together, of those in which each view has "
            + "a slice or more; of several the least one (compared slice by slice)");
        dueBest(2, "0111", 1, -1, 31);
        dueBest(2, "010", 1, 1, 50);
        dueBest(2, "01000", 1, -2, 32);
        dueBest(2, "00100", 1, 2, 38);
        dueBest(2, "001111", 1, -2, 27);
        dueBest(2, "000110", 1, 3, 38);
        dueBest(2, "001000", 2, 3, 56);
        dueBest(3, "012", 3, 3, 101);
        dueBest(3, "0120", 2, -3, 94);
        dueBest(3, "01112", 1, -1, 40);
        dueBest(3, "01200", 1, 3, 62);
        dueBest(3, "000122", 1, 2, 44);
        dueBest(4, "01233", 2, -2, 106);
        dueBest(4, "001230", 1, 1, 50);
        dueBest(4, "012300", 3, 3, 109);
        said("if there are enough slices (otherwise of all)");
        dueBest(3, "00", 3, 3, 38);
        dueBest(4, "000", 3, 3, 38);
    }

    private static void dueBest(int views, String best, int lean, int shift, int ghosts) {
        TiltedCards x = cardOf(CARDS[views] + ":" + "111111".substring(0, best.length()), lean, shift);
        for (int s = 0; s < best.length(); s++) {
            due("bestOrder(" + s + ") to " + best, x.bestOrder(s), best.charAt(s) - '0');
        }
        due("order() to " + best, x.order(), ghosts);
        dueOrder(x, best);
        due("count(4) of " + best, x.count(4), ghosts);
        due("order() of " + best, x.order(), NONE);
        // it is so already only if no slice shows another view
        for (int s = 0; s < best.length(); s++) {
            x.slice(s, best.charAt(s) == '0' ? views - 1 : 0);
            due("order() from another slice " + s + " to " + best, x.order(), ghosts);
            dueOrder(x, best);
        }
    }

    // the ghosts with the shifts -3 to 3 stand behind each card
    private static void bestShifts() {
        said("Finds the shift with the fewest ghosts at all angles together");
        dueShift("00", 0, 0, 38, 38, 18, 0, 20, 38, 38);
        dueShift("0100", 1, -1, 66, 41, 38, 40, 58, 48, 58);
        dueShift("010", 2, -2, 107, 69, 76, 76, 76, 76, 114);
        dueShift("0010", 2, -3, 61, 76, 104, 66, 66, 68, 106);
        dueShift("000120", 2, 1, 88, 112, 104, 72, 68, 70, 84);
        dueShift("000100", 2, 2, 56, 82, 80, 54, 68, 50, 58);
        said("of several the one nearest to 0");
        dueShift("0010", 1, 0, 51, 48, 58, 38, 38, 50, 78);
        dueShift("010", 1, 0, 75, 56, 50, 50, 50, 64, 88);
        dueShift("0110", 3, 0, 76, 109, 76, 76, 76, 114, 76);
        dueShift("00120", 2, 1, 88, 100, 122, 90, 84, 84, 94);
        dueShift("01010", 2, 2, 114, 118, 122, 122, 122, 114, 116);
        said("of several the one nearest to 0, of both the negative one");
        for (int pitch = 2; pitch <= 6; pitch++) {
            for (int code = 0; code < Math.pow(4, pitch); code++) {
                String order = "";
                for (int s = 0, rest = code; s < pitch; s++, rest /= 4) {
                    order = rest % 4 + order;
                }
                for (int lean = 0; lean <= 3; lean++) {
                    shiftByTrying(CARDS[4] + ":" + order, lean);
                }
            }
        }
    }

    private static void dueShift(String order, int lean, int want, int... ghosts) {
        TiltedCards x = cardOf(CARDS[3] + ":" + order, lean, 0);
        for (int shift = -3; shift <= 3; shift++) {
            x.setShift(shift);
            due("count(4) of " + order + " with the shift " + shift, x.count(4), ghosts[shift + 3]);
            due("bestShift() of " + order + " from the shift " + shift, x.bestShift(), want);
            due("count(2)", x.count(2), shift);
        }
    }

    private static void shiftByTrying(String text, int lean) {
        TiltedCards x = cardOf(text, lean, 0);
        int told = x.bestShift();
        int best = 0;
        int fewest = HIGH;
        for (int shift : new int[] {0, -1, 1, -2, 2, -3, 3}) {
            x.setShift(shift);
            int ghosts = x.count(4);
            if (ghosts < fewest) {
                fewest = ghosts;
                best = shift;
            }
        }
        due("bestShift() of " + text + " with the lean " + lean, told, best);
    }

    private static void ifSlices() {
        said("as now, but for one slice");
        for (String order : new String[] {"01", "3120", "000111", "012301"}) {
            TiltedCards x = cardOf(CARDS[4] + ":" + order, 3, -1);
            int last = order.length() - 1;
            for (int s : new int[] {0, last}) {
                for (int v : new int[] {0, 3}) {
                    int told = x.ifSlice(s, v);
                    int was = x.viewOf(s);
                    x.slice(s, v);
                    due("ifSlice(" + s + ", " + v + ") of " + order, told, x.count(4));
                    due("ifSlice(" + s + ", " + v + ") of " + order, x.ifSlice(s, v), x.count(4));
                    x.slice(s, was);
                }
            }
            dueOrder(x, order);
        }
    }

    private static void colourless() {
        said("Adds a view without colours, the last one.");
        TiltedCards x = cardOf(CARDS[4]);
        x.removeView(3);
        due("addView()", x.addView(), 4);
        dueRow(x, 3, "000000000000");
        dueRow(x, 2, "111111111111");
        said("Removes a view; those behind it get numbers that are 1 less.");
        String[] rows = CARDS[4].split("/");
        for (int gone = 0; gone < 4; gone++) {
            TiltedCards y = cardOf(CARDS[4]);
            due("removeView(" + gone + ")", y.removeView(gone), 3);
            for (int v = 0; v < 3; v++) {
                dueRow(y, v, rows[v < gone ? v : v + 1]);
            }
            due("colourOf(3, 0)", y.colourOf(3, 0), UNKNOWN);
        }
        said("Returns how many columns of theirs have unlike colours; NONE if both are the same.");
        TiltedCards z = cardOf("000000000000/900000000001/222222222222/000000000000");
        for (int v = 0; v < 4; v++) {
            due("swap(" + v + ", " + v + ")", z.swap(v, v), NONE);
        }
        due("swap(0, 3)", z.swap(0, 3), 0);
        due("swap(3, 1)", z.swap(3, 1), 2);
        dueRow(z, 3, "900000000001");
        dueRow(z, 1, "000000000000");
        due("swap(2, 3)", z.swap(2, 3), 12);
        dueRow(z, 2, "900000000001");
        dueRow(z, 3, "222222222222");
    }

    private static void lastCall() {
        said("An object is used for at most 512 calls after it has been made");
        TiltedCards x = new TiltedCards();
        for (int call = 1; call < 512; call++) {
            due("setLean() as call " + call, x.setLean(call % 4), (call - 1) % 4);
        }
        due("undo() as call 512", x.undo(), 3);
    }

    public static void main(String[] args) {
        views();
        columns();
        pitches();
        usualOrders();
        shifts();
        beyond();
        angles();
        ghosts();
        whole();
        pressing();
        texts();
        lengths();
        faults();
        readCards();
        history();
        snapshot();
        whats();
        tallies();
        slicesOfViews();
        bestOrders();
        bestOrdersAskew();
        bestShifts();
        ifSlices();
        colourless();
        lastCall();
        System.out.println(wrong == 0 ? "all boundaries hold" : wrong + " answers are not as due");
        if (wrong != 0) {
            System.exit(1);
        }
    }
}
