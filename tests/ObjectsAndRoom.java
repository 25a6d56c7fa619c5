// What the language asks of objects: no answer depends on which object it is, the same calls always give the same
// answers, and what a run makes is counted: an object is made of few parts, and no call makes any.
import com.sun.management.ThreadMXBean;
import java.lang.management.ManagementFactory;

public final class ObjectsAndRoom {
    private static final int CALLS = 500;
    private static final int KINDS = 26;
    // a run that makes a new object ahead of each of 512 calls has room for 7.3 million numbers of 4 bytes
    private static final long MOST_BYTES = 7_300_000L * 4 / 512;
    private static final String CARD = "012345678901/987654321098/111111111111:2101";

    private static int wrong = 0;

    private static void ask(boolean right, String what) {
        if (!right) {
            wrong++;
            System.out.println("not as it must be: " + what);
        }
    }

    // a call of each kind in turn, with arguments that go their own ways, some of them beyond what is known
    private static int call(TiltedCards x, int i) {
        int v = i / KINDS % 5;
        int s = i / 3 % 7;
        int r = i / 2 % 13;
        int angle = i % 21 - 10;
        int what = i / 5 % 6;
        switch (i % KINDS) {
            case 0: return x.colour(v, r, what);
            case 1: return x.addView();
            case 2: return x.removeView(v);
            case 3: return x.swap(v, s);
            case 4: return x.setPitch(s + 1);
            case 5: return x.slice(s, v);
            case 6: return x.setShift(s - 3);
            case 7: return x.setLean(v);
            case 8: return x.order();
            case 9: return x.read();
            case 10: return x.press(r * 90);
            case 11: return x.type(CARD.charAt(i / KINDS % CARD.length()));
            case 12: return i % 3 == 0 ? x.clearText() : x.type((char) (i * 127));
            case 13: return x.undo();
            case 14: return x.keep();
            case 15: return x.restore();
            case 16: return x.colourOf(v, r);
            case 17: return x.viewOf(s);
            case 18: return x.behind(r, s, what);
            case 19: return x.seen(angle, r, what);
            case 20: return x.at(angle, what);
            case 21: return x.view(v, what);
            case 22: return x.bestOrder(s);
            case 23: return x.bestShift();
            case 24: return x.ifSlice(s, v);
            default: return x.count(r);
        }
    }

    // a past of its own for each object: the calls come in another order
    private static int callOf(int object, int i) {
        return i * (object * 2 + 1) + object * 7;
    }

    private static int[][] alone(int objects) {
        int[][] told = new int[objects][CALLS];
        for (int object = 0; object < objects; object++) {
            TiltedCards x = new TiltedCards();
            for (int i = 0; i < CALLS; i++) {
                told[object][i] = call(x, callOf(object, i));
            }
        }
        return told;
    }

    private static void inTurn() {
        int objects = 9;
        int[][] told = alone(objects);
        TiltedCards[] made = new TiltedCards[objects];
        for (int object = 0; object < objects; object++) {
            made[object] = new TiltedCards();
        }
        for (int i = 0; i < CALLS; i++) {
            for (int object = 0; object < objects; object++) {
                int got = call(made[object], callOf(object, i));
                ask(got == told[object][i], "the object " + object + " answered " + got + " to the call " + i
                    + " of kind " + callOf(object, i) % KINDS + ", and " + told[object][i] + " when it was alone");
            }
        }
    }

    // a card that is read with all its parts, then every kind of call
    private static void room() {
        ThreadMXBean counter = (ThreadMXBean) ManagementFactory.getThreadMXBean();
        int[] unused = new int[1];
        for (int i = 0; i < CALLS; i++) {
            unused[0] += call(new TiltedCards(), i);
        }
        long before = counter.getCurrentThreadAllocatedBytes();
        TiltedCards x = new TiltedCards();
        long made = counter.getCurrentThreadAllocatedBytes();
        for (int i = 0; i < CARD.length(); i++) {
            unused[0] += x.type(CARD.charAt(i));
        }
        unused[0] += x.read();
        for (int i = 0; i < CALLS - CARD.length(); i++) {
            unused[0] += call(x, callOf(1, i));
        }
        long after = counter.getCurrentThreadAllocatedBytes();
        ask(made - before > 0 && made - before < MOST_BYTES, "an object takes " + (made - before) + " bytes");
        ask(after == made, "the calls of an object take " + (after - made) + " bytes, so some call makes objects");
    }

    public static void main(String[] args) {
        inTurn();
        room();
        System.out.println(wrong == 0 ? "objects are apart, and no call makes one" : wrong + " answers are wrong");
        if (wrong != 0) {
            System.exit(1);
        }
    }
}
