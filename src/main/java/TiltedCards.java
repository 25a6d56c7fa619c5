/** A postcard of ridges that shows another view as it is tilted. */
public final class TiltedCards {
    public static final int UNKNOWN = -101;
    public static final int BAD_VALUE = -102;
    public static final int FULL = -103;
    public static final int NOT_POSSIBLE = -104;
    public static final int NONE = -105;

    /** As many ridges as columns: a ridge and its column bear one number. */
    private static final int RIDGES = 12;
    private static final int MIN_VIEWS = 2;
    private static final int MAX_VIEWS = 4;
    private static final int MAX_COLOUR = 9;
    private static final int MIN_PITCH = 2;
    private static final int MAX_PITCH = 6;
    private static final int MAX_SHIFT = 3;
    private static final int MAX_LEAN = 3;
    private static final int MAX_ANGLE = 9;
    private static final int ANGLES = 19;
    private static final int MAX_TEXT = 80;
    private static final int MAX_STATES = 4;
    private static final int MAX_CARDS = 999;
    private static final int MAX_PRESSED = 99999;
    private static final int PRICE = 3;
    private static final int FAULT_BASE = -200;
    /** More than there are orders of slices. */
    private static final int MAX_ORDERS = 5000;
    /** No view, slice or ridge, and no fault either: below every number of one. */
    private static final int NOTHING = -1;

    private final Sight sight = new Sight();
    private final Card card = sight.card;
    private final Sight trialSight = new Sight();
    /** A card to try other settings with. */
    private final Card trial = trialSight.card;
    private final int[] bestSlices = new int[MAX_PITCH];
    private final History history = new History();
    private final Card snapshot = new Card();
    private boolean hasSnapshot = false;
    private final CardText text = new CardText();

    public TiltedCards() {
    }

    // ---- views, slices

    public int colour(int view, int column, int colour) {
        if (!card.hasView(view) || !isRidge(column)) {
            return UNKNOWN;
        }
        if (!isWithin(colour, 0, MAX_COLOUR)) {
            return BAD_VALUE;
        }
        int previous = card.colourIn(view, column);
        if (previous == colour) {
            return NONE;
        }
        history.record(card);
        card.paint(view, column, colour);
        return previous;
    }

    public int addView() {
        if (card.views >= MAX_VIEWS) {
            return FULL;
        }
        history.record(card);
        card.appendView();
        return card.views;
    }

    public int removeView(int view) {
        if (!card.hasView(view)) {
            return UNKNOWN;
        }
        if (card.views <= MIN_VIEWS) {
            return NOT_POSSIBLE;
        }
        history.record(card);
        card.dropView(view);
        return card.views;
    }

    public int swap(int one, int other) {
        if (!card.hasView(one) || !card.hasView(other)) {
            return UNKNOWN;
        }
        if (one == other) {
            return NONE;
        }
        history.record(card);
        return card.exchangeViews(one, other);
    }

    public int setPitch(int pitch) {
        if (!isWithin(pitch, MIN_PITCH, MAX_PITCH)) {
            return BAD_VALUE;
        }
        int previous = card.pitch;
        if (previous == pitch) {
            return NONE;
        }
        history.record(card);
        card.pitch = pitch;
        card.resetSlices();
        return previous;
    }

    public int slice(int slice, int view) {
        if (!card.hasSlice(slice) || !card.hasView(view)) {
            return UNKNOWN;
        }
        int previous = card.viewDue(slice);
        if (previous == view) {
            return NONE;
        }
        history.record(card);
        card.putSlice(slice, view);
        return previous;
    }

    public int setShift(int shift) {
        if (!isWithin(shift, -MAX_SHIFT, MAX_SHIFT)) {
            return BAD_VALUE;
        }
        int previous = card.shift;
        if (previous == shift) {
            return NONE;
        }
        history.record(card);
        card.shift = shift;
        return previous;
    }

    public int setLean(int lean) {
        if (!isWithin(lean, 0, MAX_LEAN)) {
            return BAD_VALUE;
        }
        int previous = card.lean;
        if (previous == lean) {
            return NONE;
        }
        history.record(card);
        card.lean = lean;
        return previous;
    }

    public int order() {
        findBestSlices();
        if (card.hasSlices(bestSlices)) {
            return NONE;
        }
        history.record(card);
        card.putSlices(bestSlices);
        return look().ghostsAtAllAngles();
    }

    public int read() {
        int fault = text.findFault();
        if (fault != NOTHING) {
            return FAULT_BASE - fault;
        }
        history.record(card);
        text.writeTo(card);
        return card.views;
    }

    public int press(int cards) {
        if (!isWithin(cards, 1, MAX_CARDS)) {
            return BAD_VALUE;
        }
        if (card.pressed + cards > MAX_PRESSED) {
            return FULL;
        }
        int good = look().wholeViews() == card.views ? cards : 0;
        history.record(card);
        card.pressed += cards;
        card.good += good;
        card.cost += cards * (PRICE + card.pitch);
        return good;
    }

    // ---- texts

    public int type(char character) {
        if (text.isFull()) {
            return FULL;
        }
        text.append(character);
        return text.length;
    }

    public int clearText() {
        int previous = text.length;
        text.empty();
        return previous;
    }

    // ---- history

    public int undo() {
        if (history.size == 0) {
            return NONE;
        }
        history.takeLatest(card);
        return history.size;
    }

    public int keep() {
        snapshot.copyFrom(card);
        hasSnapshot = true;
        return card.views;
    }

    public int restore() {
        if (!hasSnapshot) {
            return NONE;
        }
        history.record(card);
        card.copyFrom(snapshot);
        return card.views;
    }

    // ---- what is told

    public int colourOf(int view, int column) {
        if (!card.hasView(view) || !isRidge(column)) {
            return UNKNOWN;
        }
        return card.colourIn(view, column);
    }

    public int viewOf(int slice) {
        if (!card.hasSlice(slice)) {
            return UNKNOWN;
        }
        return card.viewDue(slice);
    }

    public int behind(int ridge, int place, int what) {
        if (!isRidge(ridge) || !card.hasSlice(place)) {
            return UNKNOWN;
        }
        switch (what) {
            case 0:
                return noneForNothing(card.viewBehind(ridge, place));
            case 1:
                return noneForNothing(card.colourBehind(ridge, place));
            case 2:
                return noneForNothing(card.ridgeBehind(ridge, place));
            default:
                return BAD_VALUE;
        }
    }

    public int seen(int angle, int ridge, int what) {
        if (!isAngle(angle) || !isRidge(ridge)) {
            return UNKNOWN;
        }
        int step = card.stepAt(angle);
        int place = card.placeSeen(step, ridge);
        switch (what) {
            case 0:
                return noneForNothing(card.viewBehind(ridge, place));
            case 1:
                return noneForNothing(card.colourBehind(ridge, place));
            case 2:
                return place;
            case 3:
                return look().isGhost(step, ridge) ? 1 : 0;
            default:
                return BAD_VALUE;
        }
    }

    public int at(int angle, int what) {
        if (!isAngle(angle)) {
            return UNKNOWN;
        }
        int step = card.stepAt(angle);
        look();
        switch (what) {
            case 0:
                return sight.ghosts(step);
            case 1:
                return noneForNothing(sight.wholeView(step));
            case 2:
                return noneForNothing(sight.mostShownView(step));
            case 3:
                return sight.mostShownRidges(step);
            case 4:
                return sight.ridgesShowing(step, NOTHING);
            default:
                return BAD_VALUE;
        }
    }

    public int view(int view, int what) {
        if (!card.hasView(view)) {
            return UNKNOWN;
        }
        look();
        switch (what) {
            case 0:
                return card.slicesShowing(view);
            case 1:
                return sight.anglesShowingWhole(view);
            case 2:
                return sight.clearestAngle(view);
            case 3:
                return sight.ridgesShowing(card.stepAt(sight.clearestAngle(view)), view);
            default:
                return BAD_VALUE;
        }
    }

    public int bestOrder(int slice) {
        if (!card.hasSlice(slice) || !isWithin(slice, 0, MAX_PITCH - 1)) {
            return UNKNOWN;
        }
        findBestSlices();
        return bestSlices[slice];
    }

    public int bestShift() {
        trial.copyFrom(card);
        int best = 0;
        int fewest = ghostsWithShift(0);
        for (int distance = 1; distance <= MAX_SHIFT; distance++) {
            int left = ghostsWithShift(-distance);
            if (left < fewest) {
                fewest = left;
                best = -distance;
            }
            int right = ghostsWithShift(distance);
            if (right < fewest) {
                fewest = right;
                best = distance;
            }
        }
        return best;
    }

    public int ifSlice(int slice, int view) {
        if (!card.hasSlice(slice) || !card.hasView(view)) {
            return UNKNOWN;
        }
        trial.copyFrom(card);
        trial.putSlice(slice, view);
        trialSight.aim();
        return trialSight.ghostsAtAllAngles();
    }

    public int count(int what) {
        switch (what) {
            case 0:
                return card.views;
            case 1:
                return card.pitch;
            case 2:
                return card.shift;
            case 3:
                return card.lean;
            case 4:
                return look().ghostsAtAllAngles();
            case 5:
                return look().anglesShowingAnyWhole();
            case 6:
                return look().wholeViews();
            case 7:
                return card.pressed;
            case 8:
                return card.good;
            case 9:
                return card.pressed - card.good;
            case 10:
                return card.cost;
            case 11:
                return history.size;
            case 12:
                return text.length;
            default:
                return BAD_VALUE;
        }
    }

    // ---- helpers

    private static boolean isWithin(int value, int low, int high) {
        return value >= low && value <= high;
    }

    private static boolean isRidge(int ridge) {
        return isWithin(ridge, 0, RIDGES - 1);
    }

    private static boolean isAngle(int angle) {
        return isWithin(angle, -MAX_ANGLE, MAX_ANGLE);
    }

    private static int noneForNothing(int number) {
        return number == NOTHING ? NONE : number;
    }

    private static void copyNumbers(int[] from, int[] to) {
        for (int i = 0; i < from.length && i < to.length; i++) {
            to[i] = from[i];
        }
    }

    /** The sight of the card as it is now; it is stale after the next act. */
    private Sight look() {
        sight.aim();
        return sight;
    }

    private int ghostsWithShift(int shift) {
        trial.shift = shift;
        trialSight.aim();
        return trialSight.ghostsAtAllAngles();
    }

    /**
     * Views with other numbers make the same ghosts. So the least of the best orders is one in which
     * the views come up in turn (0 first, 1 ahead of 2 ..), and no other needs to be tried.
     */
    private void findBestSlices() {
        trial.copyFrom(card);
        trial.startSlices();
        trialSight.aim();
        boolean enough = trial.pitch >= trial.views;
        boolean found = false;
        int fewest = 0;
        boolean more = true;
        for (int tried = 0; more && tried < MAX_ORDERS; tried++) {
            if (!enough || trial.showsEachView()) {
                int ghosts = trialSight.ghostsAtAllAngles();
                if (!found || ghosts < fewest) {
                    found = true;
                    fewest = ghosts;
                    copyNumbers(trial.sliceViews, bestSlices);
                }
            }
            more = trial.nextSlices();
        }
    }

    /** A state: the views, the order of slices, the press and what it has pressed. */
    private static final class Card {
        private int views = MIN_VIEWS;
        /** The colours of all views, 12 for each. */
        private final int[] colours = new int[MAX_VIEWS * RIDGES];
        private int pitch = MIN_PITCH;
        /** The order of slices; what stands from the pitch on tells nothing. */
        private final int[] sliceViews = new int[MAX_PITCH];
        private int shift = 0;
        private int lean = 0;
        private int pressed = 0;
        private int good = 0;
        private int cost = 0;

        Card() {
            resetSlices();
        }

        void copyFrom(Card other) {
            views = other.views;
            copyNumbers(other.colours, colours);
            pitch = other.pitch;
            copyNumbers(other.sliceViews, sliceViews);
            shift = other.shift;
            lean = other.lean;
            pressed = other.pressed;
            good = other.good;
            cost = other.cost;
        }

        boolean hasView(int view) {
            return isWithin(view, 0, views - 1);
        }

        boolean hasSlice(int slice) {
            return isWithin(slice, 0, pitch - 1);
        }

        int colourIn(int view, int column) {
            if (!isWithin(view, 0, MAX_VIEWS - 1) || !isRidge(column)) {
                return NOTHING;
            }
            return colours[view * RIDGES + column];
        }

        void paint(int view, int column, int colour) {
            if (isWithin(view, 0, MAX_VIEWS - 1) && isRidge(column)) {
                colours[view * RIDGES + column] = colour;
            }
        }

        void appendView() {
            for (int column = 0; column < RIDGES; column++) {
                paint(views, column, 0);
            }
            views++;
            resetSlices();
        }

        void dropView(int view) {
            for (int next = view + 1; next < views; next++) {
                for (int column = 0; column < RIDGES; column++) {
                    paint(next - 1, column, colourIn(next, column));
                }
            }
            views--;
            resetSlices();
        }

        /** Tells how many columns have unlike colours. */
        int exchangeViews(int one, int other) {
            int unlike = 0;
            for (int column = 0; column < RIDGES; column++) {
                int colour = colourIn(one, column);
                int otherColour = colourIn(other, column);
                if (colour != otherColour) {
                    unlike++;
                }
                paint(one, column, otherColour);
                paint(other, column, colour);
            }
            return unlike;
        }

        void resetSlices() {
            int view = 0;
            for (int slice = 0; slice < MAX_PITCH; slice++) {
                sliceViews[slice] = view;
                view = view + 1 < views ? view + 1 : 0;
            }
        }

        /** The view that is due at a slice. */
        int viewDue(int slice) {
            if (slice < 0 || slice >= MAX_PITCH) {
                return NOTHING;
            }
            return sliceViews[slice];
        }

        void putSlice(int slice, int view) {
            if (isWithin(slice, 0, MAX_PITCH - 1)) {
                sliceViews[slice] = view;
            }
        }

        void putSlices(int[] slices) {
            copyNumbers(slices, sliceViews);
        }

        boolean hasSlices(int[] slices) {
            for (int slice = 0; slice < pitch && slice < slices.length; slice++) {
                if (viewDue(slice) != slices[slice]) {
                    return false;
                }
            }
            return true;
        }

        int slicesShowing(int view) {
            int showing = 0;
            for (int slice = 0; slice < pitch; slice++) {
                if (viewDue(slice) == view) {
                    showing++;
                }
            }
            return showing;
        }

        boolean showsEachView() {
            for (int view = 0; view < views; view++) {
                if (slicesShowing(view) == 0) {
                    return false;
                }
            }
            return true;
        }

        /** The least order. */
        void startSlices() {
            for (int slice = 0; slice < MAX_PITCH; slice++) {
                sliceViews[slice] = 0;
            }
        }

        /** Goes on to the next order in which the views come up in turn; false if there is none. */
        boolean nextSlices() {
            for (int slice = pitch - 1; slice > 0; slice--) {
                int next = viewDue(slice) + 1;
                if (next < views && next <= highestViewBefore(slice) + 1) {
                    putSlice(slice, next);
                    for (int later = slice + 1; later < pitch; later++) {
                        putSlice(later, 0);
                    }
                    return true;
                }
            }
            return false;
        }

        int highestViewBefore(int slice) {
            int highest = 0;
            for (int earlier = 0; earlier < slice; earlier++) {
                highest = Math.max(highest, viewDue(earlier));
            }
            return highest;
        }

        /** The place on the whole card that is due behind a ridge, as the press is out of step. */
        int spotBehind(int ridge, int place) {
            int spot = ridge * pitch + place - shift;
            return isWithin(spot, 0, RIDGES * pitch - 1) ? spot : NOTHING;
        }

        int sliceBehind(int ridge, int place) {
            int spot = spotBehind(ridge, place);
            return spot == NOTHING || pitch < 1 ? NOTHING : spot % pitch;
        }

        int ridgeBehind(int ridge, int place) {
            int spot = spotBehind(ridge, place);
            return spot == NOTHING || pitch < 1 ? NOTHING : spot / pitch;
        }

        int viewBehind(int ridge, int place) {
            return viewDue(sliceBehind(ridge, place));
        }

        int colourBehind(int ridge, int place) {
            return colourIn(viewBehind(ridge, place), ridgeBehind(ridge, place));
        }

        /** The place that an angle tells, ahead of the lean. Angles of the same step show the same. */
        int stepAt(int angle) {
            return pitch * (angle + MAX_ANGLE) / ANGLES;
        }

        int placeSeen(int step, int ridge) {
            int place = step + lean * (ridge - 6) / 4;
            return Math.max(0, Math.min(place, pitch - 1));
        }
    }

    /** What an eye sees of a card. It makes the card, as a constructor is to hand out nothing of what it makes. */
    private static final class Sight {
        private final Card card = new Card();
        /** The slice that each ridge shows, or NOTHING, 12 for each step. */
        private final int[] slicesSeen = new int[MAX_PITCH * RIDGES];
        /** How many angles have the step. */
        private final int[] anglesOfStep = new int[MAX_PITCH];

        /** To be called when the pitch, the shift or the lean may be another one. */
        void aim() {
            for (int step = 0; step < MAX_PITCH; step++) {
                anglesOfStep[step] = 0;
                for (int ridge = 0; ridge < RIDGES; ridge++) {
                    slicesSeen[step * RIDGES + ridge] = card.sliceBehind(ridge, card.placeSeen(step, ridge));
                }
            }
            for (int angle = -MAX_ANGLE; angle <= MAX_ANGLE; angle++) {
                int step = card.stepAt(angle);
                if (isWithin(step, 0, MAX_PITCH - 1)) {
                    anglesOfStep[step]++;
                }
            }
        }

        int viewSeen(int step, int ridge) {
            if (step < 0 || step >= MAX_PITCH || ridge < 0 || ridge >= RIDGES) {
                return NOTHING;
            }
            return card.viewDue(slicesSeen[step * RIDGES + ridge]);
        }

        boolean isGhost(int step, int ridge) {
            int shown = viewSeen(step, ridge);
            return ridge > 0 && viewSeen(step, ridge - 1) != shown
                || ridge < RIDGES - 1 && viewSeen(step, ridge + 1) != shown;
        }

        int ghosts(int step) {
            int ghosts = 0;
            for (int ridge = 0; ridge < RIDGES; ridge++) {
                if (isGhost(step, ridge)) {
                    ghosts++;
                }
            }
            return ghosts;
        }

        int ghostsAtAllAngles() {
            int ghosts = 0;
            for (int step = 0; step < card.pitch && step < MAX_PITCH; step++) {
                ghosts += anglesOfStep[step] * ghosts(step);
            }
            return ghosts;
        }

        /** The view may be NOTHING too. */
        int ridgesShowing(int step, int view) {
            int showing = 0;
            for (int ridge = 0; ridge < RIDGES; ridge++) {
                if (viewSeen(step, ridge) == view) {
                    showing++;
                }
            }
            return showing;
        }

        /** The view that all ridges show, or NOTHING. */
        int wholeView(int step) {
            int shown = viewSeen(step, 0);
            return ridgesShowing(step, shown) == RIDGES ? shown : NOTHING;
        }

        /** The view that most ridges show, or NOTHING if none shows one. */
        int mostShownView(int step) {
            int most = 0;
            int best = NOTHING;
            for (int view = 0; view < card.views; view++) {
                int showing = ridgesShowing(step, view);
                if (showing > most) {
                    most = showing;
                    best = view;
                }
            }
            return best;
        }

        int mostShownRidges(int step) {
            int view = mostShownView(step);
            return view == NOTHING ? 0 : ridgesShowing(step, view);
        }

        int anglesShowingWhole(int view) {
            int angles = 0;
            for (int step = 0; step < card.pitch && step < MAX_PITCH; step++) {
                if (wholeView(step) == view) {
                    angles += anglesOfStep[step];
                }
            }
            return angles;
        }

        int anglesShowingAnyWhole() {
            return ANGLES - anglesShowingWhole(NOTHING);
        }

        /** How many views are shown whole at some angle. */
        int wholeViews() {
            int whole = 0;
            for (int view = 0; view < card.views; view++) {
                if (anglesShowingWhole(view) > 0) {
                    whole++;
                }
            }
            return whole;
        }

        int clearestAngle(int view) {
            int clearest = -MAX_ANGLE;
            int most = NOTHING;
            int fewest = 0;
            for (int angle = -MAX_ANGLE; angle <= MAX_ANGLE; angle++) {
                int step = card.stepAt(angle);
                int showing = ridgesShowing(step, view);
                int ghosts = ghosts(step);
                if (showing > most || showing == most && ghosts < fewest) {
                    clearest = angle;
                    most = showing;
                    fewest = ghosts;
                }
            }
            return clearest;
        }
    }

    /** The latest states; cards are made once and used again. */
    private static final class History {
        private final Card[] states = new Card[MAX_STATES];
        private int size = 0;

        History() {
            for (int i = 0; i < MAX_STATES; i++) {
                states[i] = new Card();
            }
        }

        void record(Card card) {
            if (size >= MAX_STATES) {
                dropOldest();
            }
            Card free = stateAt(size);
            if (free != null) {
                free.copyFrom(card);
                size++;
            }
        }

        /** The card of the oldest state becomes the free one at the end. */
        void dropOldest() {
            Card oldest = states[0];
            for (int i = 1; i < MAX_STATES; i++) {
                states[i - 1] = states[i];
            }
            states[MAX_STATES - 1] = oldest;
            size--;
        }

        void takeLatest(Card card) {
            Card latest = stateAt(size - 1);
            if (latest != null) {
                card.copyFrom(latest);
                size--;
            }
        }

        Card stateAt(int i) {
            return i >= 0 && i < MAX_STATES ? states[i] : null;
        }
    }

    /** The text of a card. */
    private static final class CardText {
        private static final int VIEW_LENGTH = RIDGES + 1;

        private final char[] characters = new char[MAX_TEXT];
        private int length = 0;
        /** Where the ":" is among what was looked at, or NOTHING. */
        private int colon = NOTHING;

        boolean isFull() {
            return length >= MAX_TEXT;
        }

        /** A character above 255 is a fault wherever it stands, as the character 0 is, and is kept as that. */
        void append(char character) {
            if (length >= 0 && length < MAX_TEXT) {
                characters[length] = character <= 255 ? character : (char) 0;
                length++;
            }
        }

        void empty() {
            length = 0;
        }

        char charAt(int i) {
            return i >= 0 && i < MAX_TEXT ? characters[i] : (char) 0;
        }

        /** The digit at an index, or NOTHING if another character is there. */
        int digitAt(int i) {
            char character = charAt(i);
            return character >= '0' && character <= '9' ? character - '0' : NOTHING;
        }

        /** The index of the fault, or NOTHING if the text is a card. */
        int findFault() {
            colon = NOTHING;
            for (int i = 0; i < length; i++) {
                if (!isAllowed(i)) {
                    return i;
                }
                if (charAt(i) == ':') {
                    colon = i;
                }
            }
            return isEnded() ? NOTHING : length;
        }

        /** Whether the character at an index may follow those ahead of it, which are allowed. */
        boolean isAllowed(int i) {
            if (colon != NOTHING) {
                return i - colon <= MAX_PITCH && isWithin(digitAt(i), 0, viewsUpTo(colon) - 1);
            }
            if ((i + 1) % VIEW_LENGTH != 0) {
                return digitAt(i) != NOTHING;
            }
            return charAt(i) == '/' && viewsUpTo(i) < MAX_VIEWS
                || charAt(i) == ':' && viewsUpTo(i) >= MIN_VIEWS;
        }

        boolean isEnded() {
            if (colon != NOTHING) {
                return length - colon - 1 >= MIN_PITCH;
            }
            return (length + 1) % VIEW_LENGTH == 0 && viewsUpTo(length) >= MIN_VIEWS;
        }

        /** How many whole views stand ahead of an index. */
        static int viewsUpTo(int i) {
            return (i + 1) / VIEW_LENGTH;
        }

        /** Only for a text without a fault. */
        void writeTo(Card card) {
            card.views = viewsUpTo(colon == NOTHING ? length : colon);
            for (int view = 0; view < card.views; view++) {
                for (int column = 0; column < RIDGES; column++) {
                    card.paint(view, column, digitAt(view * VIEW_LENGTH + column));
                }
            }
            card.resetSlices();
            if (colon != NOTHING) {
                card.pitch = length - colon - 1;
                for (int slice = 0; slice < card.pitch; slice++) {
                    card.putSlice(slice, digitAt(colon + 1 + slice));
                }
            }
        }
    }
}
