// Long runs of mixed calls, each answer compared with that of a second program, which tells the document's
// words as plainly as it can: every angle, every ridge and every order is tried.

import java.util.ArrayList;
import java.util.List;

public final class RandomRuns {
    private static final int UNKNOWN = -101;
    private static final int BAD_VALUE = -102;
    private static final int FULL = -103;
    private static final int NOT_POSSIBLE = -104;
    private static final int NONE = -105;
    private static final int RUNS = 400;
    private static final int CALLS = 511;

    // ---- the second program

    private static final class State {
        List<int[]> views = new ArrayList<>();
        int[] order;
        int shift;
        int lean;
        int pressed;
        int good;
        int cost;

        State() {
            views.add(new int[12]);
            views.add(new int[12]);
            usualOrder(2);
        }

        State(State other) {
            for (int[] row : other.views) {
                views.add(row.clone());
            }
            order = other.order.clone();
            shift = other.shift;
            lean = other.lean;
            pressed = other.pressed;
            good = other.good;
            cost = other.cost;
        }

        void usualOrder(int pitch) {
            order = new int[pitch];
            for (int s = 0; s < pitch; s++) {
                order[s] = s % views.size();
            }
        }

        // the view, the colour and the ridge that lie there, or null for nothing
        int[] behind(int r, int s) {
            int p = order.length;
            int place = s - shift;
            int ridge = r;
            while (place < 0) {
                place += p;
                ridge--;
            }
            while (place >= p) {
                place -= p;
                ridge++;
            }
            if (ridge < 0 || ridge > 11) {
                return null;
            }
            int view = order[place];
            return new int[] {view, views.get(view)[ridge], ridge};
        }

        int place(int angle, int r) {
            int p = order.length;
            int place = (int) Math.floor(p * (angle + 9) / 19.0);
            double lent = lean * (r - 6) / 4.0;
            place += (int) (lent < 0 ? Math.ceil(lent) : Math.floor(lent));
            return place < 0 ? 0 : place > p - 1 ? p - 1 : place;
        }

        int shown(int angle, int r) {
            int[] what = behind(r, place(angle, r));
            return what == null ? -1 : what[0];
        }

        boolean ghost(int angle, int r) {
            boolean left = r > 0 && shown(angle, r - 1) != shown(angle, r);
            boolean right = r < 11 && shown(angle, r + 1) != shown(angle, r);
            return left || right;
        }

        int ghosts(int angle) {
            int n = 0;
            for (int r = 0; r < 12; r++) {
                n += ghost(angle, r) ? 1 : 0;
            }
            return n;
        }

        int allGhosts() {
            int n = 0;
            for (int angle = -9; angle <= 9; angle++) {
                n += ghosts(angle);
            }
            return n;
        }

        int showing(int angle, int view) {
            int n = 0;
            for (int r = 0; r < 12; r++) {
                n += shown(angle, r) == view ? 1 : 0;
            }
            return n;
        }

        int whole(int angle) {
            for (int v = 0; v < views.size(); v++) {
                if (showing(angle, v) == 12) {
                    return v;
                }
            }
            return NONE;
        }

        int most(int angle) {
            int best = NONE;
            for (int v = views.size() - 1; v >= 0; v--) {
                if (showing(angle, v) > 0 && (best == NONE || showing(angle, v) >= showing(angle, best))) {
                    best = v;
                }
            }
            return best;
        }

        int wholeAngles(int view) {
            int n = 0;
            for (int angle = -9; angle <= 9; angle++) {
                n += whole(angle) == view ? 1 : 0;
            }
            return n;
        }

        int wholeViews() {
            int n = 0;
            for (int v = 0; v < views.size(); v++) {
                n += wholeAngles(v) > 0 ? 1 : 0;
            }
            return n;
        }

        int clearest(int view) {
            int best = 9;
            for (int angle = 9; angle >= -9; angle--) {
                int more = showing(angle, view) - showing(best, view);
                if (more > 0 || more == 0 && ghosts(angle) <= ghosts(best)) {
                    best = angle;
                }
            }
            return best;
        }

        int[] bestOrder() {
            int p = order.length;
            int n = views.size();
            int all = 1;
            for (int s = 0; s < p; s++) {
                all *= n;
            }
            State other = new State(this);
            int[] best = null;
            int fewest = 0;
            for (int code = 0; code < all; code++) {
                int rest = code;
                boolean[] has = new boolean[n];
                for (int s = p - 1; s >= 0; s--) {
                    other.order[s] = rest % n;
                    has[rest % n] = true;
                    rest /= n;
                }
                boolean each = true;
                for (boolean h : has) {
                    each &= h;
                }
                if (p >= n && !each) {
                    continue;
                }
                int ghosts = other.allGhosts();
                if (best == null || ghosts < fewest) {
                    best = other.order.clone();
                    fewest = ghosts;
                }
            }
            return best;
        }

        int bestShift() {
            State other = new State(this);
            int best = 99;
            int fewest = 0;
            for (int s = -3; s <= 3; s++) {
                other.shift = s;
                int ghosts = other.allGhosts();
                if (best == 99 || ghosts < fewest || ghosts == fewest && Math.abs(s) < Math.abs(best)) {
                    best = s;
                    fewest = ghosts;
                }
            }
            return best;
        }
    }

    private static final class Model {
        State now = new State();
        State kept = null;
        final List<State> history = new ArrayList<>();
        String text = "";

        void record() {
            history.add(new State(now));
            if (history.size() > 4) {
                history.remove(0);
            }
        }

        boolean view(int v) {
            return v >= 0 && v < now.views.size();
        }

        boolean slice(int s) {
            return s >= 0 && s < now.order.length;
        }

        static boolean ridge(int r) {
            return r >= 0 && r <= 11;
        }

        int fault() {
            if (text.matches("[0-9]{12}(/[0-9]{12}){1,3}(:[0-9]{2,6})?")) {
                int colon = text.indexOf(':');
                for (int i = colon + 1; colon >= 0 && i < text.length(); i++) {
                    if (text.charAt(i) - '0' >= (colon + 1) / 13) {
                        return i;
                    }
                }
                return -1;
            }
            // the longest beginning that some card has
            for (int n = text.length(); n >= 0; n--) {
                if (begins(text.substring(0, n))) {
                    return n;
                }
            }
            return 0;
        }

        static boolean begins(String s) {
            String[] parts = s.split(":", -1);
            if (parts.length > 2) {
                return false;
            }
            String[] rows = parts[0].split("/", -1);
            if (rows.length > 4) {
                return false;
            }
            for (int i = 0; i < rows.length; i++) {
                boolean last = i == rows.length - 1 && parts.length == 1;
                if (!rows[i].matches(last ? "[0-9]{0,12}" : "[0-9]{12}")) {
                    return false;
                }
            }
            if (parts.length == 2) {
                if (rows.length < 2 || !parts[1].matches("[0-9]{0,6}")) {
                    return false;
                }
                for (char c : parts[1].toCharArray()) {
                    if (c - '0' >= rows.length) {
                        return false;
                    }
                }
            }
            return true;
        }

        int read() {
            int fault = fault();
            if (fault >= 0) {
                return -200 - fault;
            }
            record();
            String[] parts = text.split(":");
            now.views.clear();
            for (String row : parts[0].split("/")) {
                int[] colours = new int[12];
                for (int c = 0; c < 12; c++) {
                    colours[c] = row.charAt(c) - '0';
                }
                now.views.add(colours);
            }
            if (parts.length == 1) {
                now.usualOrder(now.order.length);
            } else {
                now.order = new int[parts[1].length()];
                for (int s = 0; s < now.order.length; s++) {
                    now.order[s] = parts[1].charAt(s) - '0';
                }
            }
            return now.views.size();
        }

        int colour(int v, int c, int colour) {
            if (!view(v) || !ridge(c)) {
                return UNKNOWN;
            }
            if (colour < 0 || colour > 9) {
                return BAD_VALUE;
            }
            int old = now.views.get(v)[c];
            if (old == colour) {
                return NONE;
            }
            record();
            now.views.get(v)[c] = colour;
            return old;
        }

        int addView() {
            if (now.views.size() == 4) {
                return FULL;
            }
            record();
            now.views.add(new int[12]);
            now.usualOrder(now.order.length);
            return now.views.size();
        }

        int removeView(int v) {
            if (!view(v)) {
                return UNKNOWN;
            }
            if (now.views.size() == 2) {
                return NOT_POSSIBLE;
            }
            record();
            now.views.remove(v);
            now.usualOrder(now.order.length);
            return now.views.size();
        }

        int swap(int a, int b) {
            if (!view(a) || !view(b)) {
                return UNKNOWN;
            }
            if (a == b) {
                return NONE;
            }
            record();
            int[] one = now.views.get(a);
            int[] other = now.views.get(b);
            now.views.set(a, other);
            now.views.set(b, one);
            int n = 0;
            for (int c = 0; c < 12; c++) {
                n += one[c] != other[c] ? 1 : 0;
            }
            return n;
        }

        int setPitch(int p) {
            if (p < 2 || p > 6) {
                return BAD_VALUE;
            }
            int old = now.order.length;
            if (old == p) {
                return NONE;
            }
            record();
            now.usualOrder(p);
            return old;
        }

        int slice(int s, int v) {
            if (!slice(s) || !view(v)) {
                return UNKNOWN;
            }
            int old = now.order[s];
            if (old == v) {
                return NONE;
            }
            record();
            now.order[s] = v;
            return old;
        }

        int setShift(int shift) {
            if (shift < -3 || shift > 3) {
                return BAD_VALUE;
            }
            int old = now.shift;
            if (old == shift) {
                return NONE;
            }
            record();
            now.shift = shift;
            return old;
        }

        int setLean(int lean) {
            if (lean < 0 || lean > 3) {
                return BAD_VALUE;
            }
            int old = now.lean;
            if (old == lean) {
                return NONE;
            }
            record();
            now.lean = lean;
            return old;
        }

        int order() {
            int[] best = now.bestOrder();
            if (java.util.Arrays.equals(best, now.order)) {
                return NONE;
            }
            record();
            now.order = best;
            return now.allGhosts();
        }

        int press(int cards) {
            if (cards < 1 || cards > 999) {
                return BAD_VALUE;
            }
            if (now.pressed + cards > 99999) {
                return FULL;
            }
            record();
            int good = now.wholeViews() == now.views.size() ? cards : 0;
            now.pressed += cards;
            now.good += good;
            now.cost += cards * (3 + now.order.length);
            return good;
        }

        int type(char c) {
            if (text.length() == 80) {
                return FULL;
            }
            text += c;
            return text.length();
        }

        int clearText() {
            int old = text.length();
            text = "";
            return old;
        }

        int undo() {
            if (history.isEmpty()) {
                return NONE;
            }
            now = history.remove(history.size() - 1);
            return history.size();
        }

        int keep() {
            kept = new State(now);
            return now.views.size();
        }

        int restore() {
            if (kept == null) {
                return NONE;
            }
            record();
            now = new State(kept);
            return now.views.size();
        }

        int colourOf(int v, int c) {
            return view(v) && ridge(c) ? now.views.get(v)[c] : UNKNOWN;
        }

        int viewOf(int s) {
            return slice(s) ? now.order[s] : UNKNOWN;
        }

        int behind(int r, int s, int what) {
            if (!ridge(r) || !slice(s)) {
                return UNKNOWN;
            }
            if (what < 0 || what > 2) {
                return BAD_VALUE;
            }
            int[] there = now.behind(r, s);
            return there == null ? NONE : there[what];
        }

        int seen(int angle, int r, int what) {
            if (angle < -9 || angle > 9 || !ridge(r)) {
                return UNKNOWN;
            }
            if (what < 0 || what > 3) {
                return BAD_VALUE;
            }
            if (what == 2) {
                return now.place(angle, r);
            }
            if (what == 3) {
                return now.ghost(angle, r) ? 1 : 0;
            }
            return behind(r, now.place(angle, r), what);
        }

        int at(int angle, int what) {
            if (angle < -9 || angle > 9) {
                return UNKNOWN;
            }
            switch (what) {
                case 0: return now.ghosts(angle);
                case 1: return now.whole(angle);
                case 2: return now.most(angle);
                case 3: return now.most(angle) == NONE ? 0 : now.showing(angle, now.most(angle));
                case 4: return now.showing(angle, -1);
                default: return BAD_VALUE;
            }
        }

        int view(int v, int what) {
            if (!view(v)) {
                return UNKNOWN;
            }
            int slices = 0;
            for (int s : now.order) {
                slices += s == v ? 1 : 0;
            }
            switch (what) {
                case 0: return slices;
                case 1: return now.wholeAngles(v);
                case 2: return now.clearest(v);
                case 3: return now.showing(now.clearest(v), v);
                default: return BAD_VALUE;
            }
        }

        int bestOrder(int s) {
            return slice(s) ? now.bestOrder()[s] : UNKNOWN;
        }

        int bestShift() {
            return now.bestShift();
        }

        int ifSlice(int s, int v) {
            if (!slice(s) || !view(v)) {
                return UNKNOWN;
            }
            State other = new State(now);
            other.order[s] = v;
            return other.allGhosts();
        }

        int count(int what) {
            switch (what) {
                case 0: return now.views.size();
                case 1: return now.order.length;
                case 2: return now.shift;
                case 3: return now.lean;
                case 4: return now.allGhosts();
                case 5: return 19 - now.wholeAngles(NONE);
                case 6: return now.wholeViews();
                case 7: return now.pressed;
                case 8: return now.good;
                case 9: return now.pressed - now.good;
                case 10: return now.cost;
                case 11: return history.size();
                case 12: return text.length();
                default: return BAD_VALUE;
            }
        }
    }

    // ---- the runs

    private static long seed = 1;
    private static int wrong = 0;

    // a row of numbers that is the same in each run of the tests
    private static int upTo(int bound) {
        seed = seed * 6364136223846793005L + 1442695040888963407L;
        return (int) ((seed >>> 33) % bound);
    }

    // mostly from low to high, at times one beyond, seldom far beyond
    private static int number(int low, int high) {
        switch (upTo(40)) {
            case 0: return low - 1;
            case 1: return high + 1;
            case 2: return upTo(2) == 0 ? Integer.MIN_VALUE + upTo(20) : Integer.MAX_VALUE - upTo(20);
            default: return low + upTo(high - low + 1);
        }
    }

    private static String cardText() {
        int views = 2 + upTo(3);
        StringBuilder text = new StringBuilder();
        for (int v = 0; v < views; v++) {
            text.append(v == 0 ? "" : "/");
            for (int c = 0; c < 12; c++) {
                text.append((char) ('0' + upTo(10)));
            }
        }
        if (upTo(3) > 0) {
            text.append(':');
            int slices = 2 + upTo(5);
            for (int s = 0; s < slices; s++) {
                text.append((char) ('0' + upTo(views)));
            }
        }
        if (upTo(3) == 0) {
            String signs = "0123456789/:;. a-";
            text.setCharAt(upTo(text.length()), signs.charAt(upTo(signs.length())));
        }
        if (upTo(5) == 0) {
            text.setLength(upTo(text.length() + 1));
        }
        if (upTo(8) == 0) {
            text.append((char) (upTo(2) == 0 ? '0' + upTo(12) : upTo(65536)));
        }
        return text.toString();
    }

    private static void same(int run, int call, String name, int got, int want) {
        if (got != want) {
            wrong++;
            if (wrong <= 20) {
                System.out.println("run " + run + ", call " + call + ": " + name + " answered " + got + ", due is " + want);
            }
        }
    }

    private static int typeCard(int run, int call, TiltedCards x, Model m) {
        same(run, call, "clearText()", x.clearText(), m.clearText());
        String text = cardText();
        for (int i = 0; i < text.length(); i++) {
            char c = text.charAt(i);
            same(run, call, "type(" + (int) c + ")", x.type(c), m.type(c));
        }
        same(run, call, "read() of " + text, x.read(), m.read());
        return text.length() + 2;
    }

    private static void act(int run, int call, TiltedCards x, Model m) {
        int a;
        int b;
        int c;
        switch (upTo(18)) {
            case 0: case 1:
                a = number(0, m.now.views.size() - 1); b = number(0, 11); c = number(0, 9);
                same(run, call, "colour(" + a + ", " + b + ", " + c + ")", x.colour(a, b, c), m.colour(a, b, c));
                break;
            case 2:
                same(run, call, "addView()", x.addView(), m.addView());
                break;
            case 3:
                a = number(0, m.now.views.size() - 1);
                same(run, call, "removeView(" + a + ")", x.removeView(a), m.removeView(a));
                break;
            case 4:
                a = number(0, m.now.views.size() - 1); b = number(0, m.now.views.size() - 1);
                same(run, call, "swap(" + a + ", " + b + ")", x.swap(a, b), m.swap(a, b));
                break;
            case 5:
                a = number(2, 6);
                same(run, call, "setPitch(" + a + ")", x.setPitch(a), m.setPitch(a));
                break;
            case 6: case 7: case 8:
                a = number(0, m.now.order.length - 1); b = number(0, m.now.views.size() - 1);
                same(run, call, "slice(" + a + ", " + b + ")", x.slice(a, b), m.slice(a, b));
                break;
            case 9: case 10:
                a = number(-3, 3);
                same(run, call, "setShift(" + a + ")", x.setShift(a), m.setShift(a));
                break;
            case 11: case 12:
                a = number(0, 3);
                same(run, call, "setLean(" + a + ")", x.setLean(a), m.setLean(a));
                break;
            case 13:
                if (upTo(20) == 0) {
                    same(run, call, "order()", x.order(), m.order());
                }
                break;
            case 14:
                a = number(1, 999);
                same(run, call, "press(" + a + ")", x.press(a), m.press(a));
                break;
            case 15: case 16:
                same(run, call, "undo()", x.undo(), m.undo());
                break;
            default:
                if (upTo(3) == 0) {
                    same(run, call, "keep()", x.keep(), m.keep());
                } else {
                    same(run, call, "restore()", x.restore(), m.restore());
                }
                break;
        }
    }

    private static void ask(int run, int call, TiltedCards x, Model m) {
        int a;
        int b;
        int c;
        switch (upTo(20)) {
            case 0:
                a = number(0, m.now.views.size() - 1); b = number(0, 11);
                same(run, call, "colourOf(" + a + ", " + b + ")", x.colourOf(a, b), m.colourOf(a, b));
                break;
            case 1:
                a = number(0, m.now.order.length - 1);
                same(run, call, "viewOf(" + a + ")", x.viewOf(a), m.viewOf(a));
                break;
            case 2: case 3: case 4:
                a = number(0, 11); b = number(0, m.now.order.length - 1); c = number(0, 2);
                same(run, call, "behind(" + a + ", " + b + ", " + c + ")", x.behind(a, b, c), m.behind(a, b, c));
                break;
            case 5: case 6: case 7:
                a = number(-9, 9); b = number(0, 11); c = number(0, 3);
                same(run, call, "seen(" + a + ", " + b + ", " + c + ")", x.seen(a, b, c), m.seen(a, b, c));
                break;
            case 8: case 9: case 10:
                a = number(-9, 9); b = number(0, 4);
                same(run, call, "at(" + a + ", " + b + ")", x.at(a, b), m.at(a, b));
                break;
            case 11: case 12: case 13:
                a = number(0, m.now.views.size() - 1); b = number(0, 3);
                same(run, call, "view(" + a + ", " + b + ")", x.view(a, b), m.view(a, b));
                break;
            case 14:
                if (upTo(20) == 0) {
                    a = number(0, m.now.order.length - 1);
                    same(run, call, "bestOrder(" + a + ")", x.bestOrder(a), m.bestOrder(a));
                }
                break;
            case 15:
                same(run, call, "bestShift()", x.bestShift(), m.bestShift());
                break;
            case 16:
                a = number(0, m.now.order.length - 1); b = number(0, m.now.views.size() - 1);
                same(run, call, "ifSlice(" + a + ", " + b + ")", x.ifSlice(a, b), m.ifSlice(a, b));
                break;
            default:
                a = number(0, 12);
                same(run, call, "count(" + a + ")", x.count(a), m.count(a));
                break;
        }
    }

    // every setting of views, pitch, shift and lean: its best order and best shift
    private static void everySetting() {
        for (int views = 2; views <= 4; views++) {
            for (int pitch = 2; pitch <= 6; pitch++) {
                for (int lean = 0; lean <= 3; lean++) {
                    TiltedCards x = new TiltedCards();
                    Model m = new Model();
                    for (int v = 2; v < views; v++) {
                        same(0, 0, "addView()", x.addView(), m.addView());
                    }
                    same(0, 0, "setPitch()", x.setPitch(pitch), m.setPitch(pitch));
                    same(0, 0, "setLean()", x.setLean(lean), m.setLean(lean));
                    for (int shift = -3; shift <= 3; shift++) {
                        same(0, 0, "setShift()", x.setShift(shift), m.setShift(shift));
                        int[] best = m.now.bestOrder();
                        for (int s = 0; s < pitch; s++) {
                            String call = "bestOrder(" + s + ") of " + views + " views, pitch " + pitch
                                + ", lean " + lean + ", shift " + shift;
                            same(0, 0, call, x.bestOrder(s), best[s]);
                        }
                        same(0, 0, "bestShift()", x.bestShift(), m.bestShift());
                    }
                }
            }
        }
    }

    public static void main(String[] args) {
        everySetting();
        for (int run = 1; run <= RUNS; run++) {
            TiltedCards x = new TiltedCards();
            Model m = new Model();
            int call = 0;
            while (call < CALLS - 60) {
                if (upTo(40) == 0) {
                    call += typeCard(run, call, x, m);
                } else if (upTo(3) == 0) {
                    act(run, call, x, m);
                    call++;
                } else {
                    ask(run, call, x, m);
                    call++;
                }
            }
        }
        System.out.println(wrong == 0 ? "all runs agree" : wrong + " answers are not as due");
        if (wrong != 0) {
            System.exit(1);
        }
    }
}
