// "Where several errors can apply, the order of the @return line is the order of the checks." and
// "A call that returns an error or NONE changes nothing." Each call is made on an object with a past; then all that
// the object tells, its history, its snapshot and its text must be as those of another object with the same past.
import java.util.ArrayList;
import java.util.List;

public final class Refusals {
    private static final int UNKNOWN = -101;
    private static final int BAD_VALUE = -102;
    private static final int FULL = -103;
    private static final int NOT_POSSIBLE = -104;
    private static final int NONE = -105;
    private static final int LOW = Integer.MIN_VALUE;
    private static final int HIGH = Integer.MAX_VALUE;

    private static final String ROW = "012345678909";
    private static final String ROWS = ROW + "/987654321090";

    private interface Call {
        int of(TiltedCards x);
    }

    private interface Past {
        TiltedCards made();
    }

    private static int wrong = 0;

    private static void type(TiltedCards x, String text) {
        x.clearText();
        for (int i = 0; i < text.length(); i++) {
            x.type(text.charAt(i));
        }
    }

    // ---- the pasts

    private static TiltedCards twoViews() {
        TiltedCards x = new TiltedCards();
        type(x, ROWS + ":110");
        x.read();
        x.press(5);
        x.keep();
        x.setShift(-3);
        x.setLean(2);
        type(x, ROWS + "/000000000000:2101");
        return x;
    }

    private static TiltedCards fourViews() {
        TiltedCards x = new TiltedCards();
        type(x, ROWS + "/111111111111/222222222222:3210");
        x.read();
        x.keep();
        x.setShift(2);
        x.setLean(3);
        x.press(999);
        x.colour(3, 11, 9);
        x.slice(3, 3);
        type(x, ROWS + ":2");
        return x;
    }

    private static TiltedCards ordered() {
        TiltedCards x = twoViews();
        x.order();
        return x;
    }

    private static TiltedCards fullText() {
        TiltedCards x = fourViews();
        type(x, ROWS + ":0101");
        for (int i = 30; i < 80; i++) {
            x.type('1');
        }
        return x;
    }

    private static TiltedCards fullPress() {
        TiltedCards x = new TiltedCards();
        for (int i = 0; i < 100; i++) {
            x.press(999);
        }
        x.press(98);
        x.setPitch(3);
        x.press(1);
        return x;
    }

    private static TiltedCards emptyHistory() {
        TiltedCards x = twoViews();
        for (int i = 0; i < 4; i++) {
            x.undo();
        }
        return x;
    }

    private static TiltedCards emptySnapshot() {
        TiltedCards x = new TiltedCards();
        x.addView();
        x.setPitch(5);
        x.colour(2, 2, 2);
        return x;
    }

    // ---- all that an object tells, by few enough calls

    private static void tellState(TiltedCards x, List<Integer> told) {
        for (int what = 0; what <= 12; what++) {
            told.add(x.count(what));
        }
        for (int v = 0; v < x.count(0); v++) {
            for (int c = 0; c < 12; c++) {
                told.add(x.colourOf(v, c));
            }
        }
        for (int s = 0; s < x.count(1); s++) {
            told.add(x.viewOf(s));
        }
    }

    private static List<Integer> tellPast(TiltedCards x) {
        List<Integer> told = new ArrayList<>();
        tellState(x, told);
        int left = x.count(11);
        for (int i = 0; i <= left; i++) {
            told.add(x.undo());
            told.add(x.count(2) * 10 + x.count(3));
            told.add(x.count(7));
            told.add(x.count(0) * 10 + x.count(1));
            for (int s = 0; s < 6; s++) {
                told.add(x.viewOf(s));
            }
            told.add(x.colourOf(3, 11));
        }
        told.add(x.restore());
        tellState(x, told);
        return told;
    }

    private static List<Integer> tellText(TiltedCards x) {
        List<Integer> told = new ArrayList<>();
        told.add(x.read());
        tellState(x, told);
        told.add(x.type('1'));
        told.add(x.read());
        told.add(x.clearText());
        return told;
    }

    private static void same(Past past, String name, Call call) {
        TiltedCards x = past.made();
        call.of(x);
        TiltedCards y = past.made();
        call.of(y);
        if (!tellPast(x).equals(tellPast(past.made())) || !tellText(y).equals(tellText(past.made()))) {
            wrong++;
            System.out.println(name + " has changed something");
        }
    }

    private static void refused(Past past, String name, int want, Call call) {
        int got = call.of(past.made());
        if (got != want) {
            wrong++;
            System.out.println(name + " answered " + got + ", due is " + want);
        }
        same(past, name, call);
    }

    // ---- the calls

    private static void views() {
        Past two = Refusals::twoViews;
        Past four = Refusals::fourViews;
        for (int bad : new int[] {LOW, -1, 2, HIGH}) {
            refused(two, "colour of no view", UNKNOWN, x -> x.colour(bad, 0, 1));
            refused(two, "colour of no view, column and colour", UNKNOWN, x -> x.colour(bad, 12, 10));
            refused(two, "colour of no view, with no colour", UNKNOWN, x -> x.colour(bad, 0, -1));
            refused(two, "removeView of no view, with 2 alone", UNKNOWN, x -> x.removeView(bad));
            refused(two, "swap of no first view", UNKNOWN, x -> x.swap(bad, 0));
            refused(two, "swap of no other view", UNKNOWN, x -> x.swap(0, bad));
            refused(two, "swap of no view with itself", UNKNOWN, x -> x.swap(bad, bad));
        }
        for (int bad : new int[] {LOW, -1, 12, HIGH}) {
            refused(two, "colour of no column", UNKNOWN, x -> x.colour(0, bad, 1));
            refused(two, "colour of no column, with no colour", UNKNOWN, x -> x.colour(0, bad, 10));
        }
        for (int bad : new int[] {LOW, -1, 10, HIGH}) {
            refused(two, "colour of no colour", BAD_VALUE, x -> x.colour(1, 11, bad));
        }
        refused(two, "colour that is so", NONE, x -> x.colour(1, 11, 0));
        refused(four, "colour that is so", NONE, x -> x.colour(3, 11, 9));
        refused(four, "addView to 4", FULL, TiltedCards::addView);
        refused(four, "removeView of no view", UNKNOWN, x -> x.removeView(4));
        refused(two, "removeView(0) of 2", NOT_POSSIBLE, x -> x.removeView(0));
        refused(two, "removeView(1) of 2", NOT_POSSIBLE, x -> x.removeView(1));
        refused(two, "swap(1, 1)", NONE, x -> x.swap(1, 1));
        refused(four, "swap(3, 3)", NONE, x -> x.swap(3, 3));
        refused(four, "swap(4, 4)", UNKNOWN, x -> x.swap(4, 4));
    }

    private static void settings() {
        Past two = Refusals::twoViews;
        Past four = Refusals::fourViews;
        for (int bad : new int[] {LOW, -1, 0, 1, 7, HIGH}) {
            refused(two, "setPitch(" + bad + ")", BAD_VALUE, x -> x.setPitch(bad));
        }
        refused(two, "setPitch that is so", NONE, x -> x.setPitch(3));
        refused(four, "setPitch that is so", NONE, x -> x.setPitch(4));
        for (int bad : new int[] {LOW, -4, 4, HIGH}) {
            refused(two, "setShift(" + bad + ")", BAD_VALUE, x -> x.setShift(bad));
        }
        refused(two, "setShift that is so", NONE, x -> x.setShift(-3));
        for (int bad : new int[] {LOW, -1, 4, HIGH}) {
            refused(four, "setLean(" + bad + ")", BAD_VALUE, x -> x.setLean(bad));
        }
        refused(four, "setLean that is so", NONE, x -> x.setLean(3));
        for (int bad : new int[] {LOW, -1, 3, HIGH}) {
            refused(two, "slice(" + bad + ", 0)", UNKNOWN, x -> x.slice(bad, 0));
        }
        for (int bad : new int[] {LOW, -1, 2, HIGH}) {
            refused(two, "slice(0, " + bad + ")", UNKNOWN, x -> x.slice(0, bad));
            refused(two, "slice(3, " + bad + ")", UNKNOWN, x -> x.slice(3, bad));
        }
        refused(two, "slice that is so", NONE, x -> x.slice(2, 0));
        refused(four, "slice that is so", NONE, x -> x.slice(3, 3));
        refused(Refusals::ordered, "order that is so", NONE, TiltedCards::order);
        refused(TiltedCards::new, "order that is so at first", NONE, TiltedCards::order);
    }

    private static void texts() {
        String[] faulty = {"", "x", "0", ROW, ROW + "/", ROW + ":00", ROWS + "/", ROWS + ":", ROWS + ":1", ROWS + ":12",
            ROWS + ":0000000", ROWS + "0", ROWS + "/" + ROW + "/" + ROW + "/" + ROW};
        int[] faults = {0, 0, 1, 12, 13, 12, 26, 26, 27, 27, 32, 25, 51};
        for (int i = 0; i < faulty.length; i++) {
            String text = faulty[i];
            Past two = () -> {
                TiltedCards x = twoViews();
                type(x, text);
                return x;
            };
            refused(two, "read of " + text, -200 - faults[i], TiltedCards::read);
        }
        refused(Refusals::fourViews, "read of a slice of no view", -200 - 26, TiltedCards::read);
        refused(Refusals::fullText, "read of 80 characters", -200 - 32, TiltedCards::read);
        refused(Refusals::fullText, "type behind 80", FULL, x -> x.type('0'));
        refused(Refusals::fullText, "type behind 80", FULL, x -> x.type((char) 65535));
    }

    private static void presses() {
        for (int bad : new int[] {LOW, -1, 0, 1000, HIGH}) {
            refused(Refusals::twoViews, "press(" + bad + ")", BAD_VALUE, x -> x.press(bad));
            refused(Refusals::fullPress, "press(" + bad + ") behind 99999", BAD_VALUE, x -> x.press(bad));
        }
        refused(Refusals::fullPress, "press(1) behind 99999", FULL, x -> x.press(1));
        refused(Refusals::fullPress, "press(999) behind 99999", FULL, x -> x.press(999));
    }

    private static void history() {
        refused(Refusals::emptyHistory, "undo of nothing", NONE, TiltedCards::undo);
        refused(TiltedCards::new, "undo at first", NONE, TiltedCards::undo);
        refused(Refusals::emptySnapshot, "restore of nothing", NONE, TiltedCards::restore);
        refused(TiltedCards::new, "restore at first", NONE, TiltedCards::restore);
        // once keep() has been called, a new one changes the snapshot alone
        Past kept = () -> {
            TiltedCards x = fourViews();
            x.keep();
            return x;
        };
        same(kept, "keep again", TiltedCards::keep);
        // another text of 27 characters changes the text alone
        TiltedCards x = fourViews();
        type(x, "/////////////////////qqqqqq");
        if (!tellPast(x).equals(tellPast(fourViews()))) {
            wrong++;
            System.out.println("type and clearText have changed more than the text");
        }
    }

    private static void questions() {
        Past two = Refusals::twoViews;
        Past four = Refusals::fourViews;
        for (int bad : new int[] {LOW, -1, 2, HIGH}) {
            refused(two, "colourOf no view", UNKNOWN, x -> x.colourOf(bad, 0));
            refused(two, "view of no view", UNKNOWN, x -> x.view(bad, 0));
            refused(two, "view of no view and no number", UNKNOWN, x -> x.view(bad, 4));
            refused(two, "ifSlice of no view", UNKNOWN, x -> x.ifSlice(0, bad));
        }
        for (int bad : new int[] {LOW, -1, 12, HIGH}) {
            refused(two, "colourOf no column", UNKNOWN, x -> x.colourOf(0, bad));
            refused(two, "behind no ridge", UNKNOWN, x -> x.behind(bad, 0, 0));
            refused(two, "behind no ridge, and no number", UNKNOWN, x -> x.behind(bad, 0, 3));
            refused(two, "seen of no ridge", UNKNOWN, x -> x.seen(0, bad, 0));
            refused(two, "seen of no ridge, and no number", UNKNOWN, x -> x.seen(0, bad, -1));
        }
        for (int bad : new int[] {LOW, -1, 3, HIGH}) {
            refused(two, "viewOf no slice", UNKNOWN, x -> x.viewOf(bad));
            refused(two, "behind no place", UNKNOWN, x -> x.behind(0, bad, 0));
            refused(two, "behind no place, and no number", UNKNOWN, x -> x.behind(0, bad, -1));
            refused(two, "bestOrder of no slice", UNKNOWN, x -> x.bestOrder(bad));
            refused(two, "ifSlice of no slice", UNKNOWN, x -> x.ifSlice(bad, 0));
            refused(two, "ifSlice of no slice and no view", UNKNOWN, x -> x.ifSlice(bad, 2));
            // nothing lies behind the ridge 11 with the shift -3
            refused(two, "behind what is no number", BAD_VALUE, x -> x.behind(11, 2, bad));
        }
        for (int bad : new int[] {LOW, -10, 10, HIGH}) {
            refused(two, "seen at no angle", UNKNOWN, x -> x.seen(bad, 0, 0));
            refused(two, "seen at no angle, and no number", UNKNOWN, x -> x.seen(bad, 0, 4));
            refused(two, "at no angle", UNKNOWN, x -> x.at(bad, 0));
            refused(two, "at no angle, and no number", UNKNOWN, x -> x.at(bad, 5));
        }
        for (int bad : new int[] {LOW, -1, 4, HIGH}) {
            refused(two, "seen of nothing and no number", BAD_VALUE, x -> x.seen(9, 11, bad));
            refused(two, "view of no number", BAD_VALUE, x -> x.view(0, bad));
        }
        for (int bad : new int[] {LOW, -1, 5, HIGH}) {
            refused(two, "at of no number", BAD_VALUE, x -> x.at(0, bad));
        }
        for (int bad : new int[] {LOW, -1, 13, HIGH}) {
            refused(two, "count of no number", BAD_VALUE, x -> x.count(bad));
        }
        for (int what = 0; what < 3; what++) {
            int number = what;
            refused(two, "behind " + what + " of nothing", NONE, x -> x.behind(11, 2, number));
        }
        refused(two, "seen 0 of nothing", NONE, x -> x.seen(9, 11, 0));
        refused(two, "seen 1 of nothing", NONE, x -> x.seen(9, 11, 1));
        refused(four, "at without a whole view", NONE, x -> x.at(0, 1));
        // questions that are answered change nothing either
        for (Past past : new Past[] {two, four}) {
            same(past, "bestOrder", x -> x.bestOrder(0));
            same(past, "bestShift", TiltedCards::bestShift);
            same(past, "ifSlice", x -> x.ifSlice(0, 0) + x.ifSlice(2, 1));
            same(past, "seen", x -> x.seen(-9, 0, 0) + x.seen(9, 11, 3));
            same(past, "at", x -> x.at(-9, 0) + x.at(9, 4));
            same(past, "view", x -> x.view(0, 2) + x.view(1, 3));
            same(past, "behind", x -> x.behind(0, 0, 0) + x.behind(11, 2, 2));
            same(past, "count", x -> x.count(4) + x.count(6));
        }
    }

    // each act records the state that was before it, and undo() brings all of it back
    private static void acts() {
        Past two = Refusals::twoViews;
        undone(two, "colour", x -> x.colour(1, 11, 9));
        undone(two, "addView", TiltedCards::addView);
        undone(Refusals::fourViews, "removeView", x -> x.removeView(0));
        undone(two, "swap", x -> x.swap(0, 1));
        undone(two, "setPitch", x -> x.setPitch(6));
        undone(two, "slice", x -> x.slice(0, 0));
        undone(two, "setShift", x -> x.setShift(3));
        undone(two, "setLean", x -> x.setLean(0));
        undone(two, "order", TiltedCards::order);
        undone(two, "read", TiltedCards::read);
        undone(two, "press", x -> x.press(1));
        undone(two, "restore", TiltedCards::restore);
        // these name no NONE for a change of nothing
        undone(TiltedCards::new, "swap of views with the same colours", x -> x.swap(1, 0));
        Past read = () -> {
            TiltedCards x = new TiltedCards();
            type(x, ROWS);
            x.read();
            return x;
        };
        undone(read, "read of the same card", TiltedCards::read);
        Past kept = () -> {
            TiltedCards x = new TiltedCards();
            x.keep();
            return x;
        };
        undone(kept, "restore of the same state", TiltedCards::restore);
    }

    private static void undone(Past past, String name, Call act) {
        TiltedCards x = past.made();
        int states = x.count(11);
        int answer = act.of(x);
        int now = x.count(11);
        int left = x.undo();
        List<Integer> before = new ArrayList<>();
        List<Integer> after = new ArrayList<>();
        tellState(past.made(), before);
        tellState(x, after);
        boolean dropped = states == 4;
        if (dropped) {
            // the history had four states, so one of them is gone
            before.set(11, 3);
        }
        if (answer <= UNKNOWN || now != (dropped ? 4 : states + 1) || left != now - 1 || !before.equals(after)) {
            wrong++;
            System.out.println(name + " is not undone: it answered " + answer + ", then " + now + " states, " + left
                + " left; " + before + " is due, " + after + " is told");
        }
    }

    public static void main(String[] args) {
        views();
        settings();
        texts();
        presses();
        history();
        questions();
        acts();
        System.out.println(wrong == 0 ? "what is refused changes nothing" : wrong + " calls are not as due");
        if (wrong != 0) {
            System.exit(1);
        }
    }
}
