import java.util.Arrays;

/**
 * Braid and lace: works of crosses, twists, their opposites and pins over eight bobbins.
 *
 * All rows are made once, with the object, and used again by every call: no call makes an object.
 */
public final class LaceWorks {
    public static final int UNKNOWN = -1, OUTSIDE = -2, STATE = -3, FULL = -4, NONE = -6, FAULT = -7;

    private static final int PLACES = 8;
    private static final int CHANGE_PLACES = PLACES - 1;
    private static final int WORKS = 4;
    private static final int IMAGES = 2;
    private static final int MOST_STEPS = 60;
    private static final int MOST_LETTERS = 2 * MOST_STEPS;
    private static final int MOST_WRITTEN = 2 * MOST_STEPS;
    private static final int MOST_SIGNS = 40;
    private static final int MOST_OPEN = 3;
    private static final int FIRST_SIGN = 33;
    private static final int LAST_SIGN = 126;

    private static final int SPOTS = 3;
    private static final int KIND_D = 1, KIND_T = 2, KIND_U = 3, KIND_P = 4;
    private static final String KIND_SIGNS = "CDTUP";

    /** No row of eight needs more turns to come back: 15 is the most (a ring of 3 and one of 5). */
    private static final int MOST_TURNS = 15;

    private final Row pad;
    private final Row draft;
    private final Row script;
    private final Row letters;
    private final Row letterSteps;
    private final Row shortOne;
    private final Row shortOther;
    private final Works works;
    private final Works[] images;
    private final Reader reader;
    private final Shortener shortener;
    private final Board board;
    private int keptImages;
    private int toldFault;

    public LaceWorks() {
        pad = new Row(MOST_SIGNS);
        draft = new Row(MOST_STEPS);
        script = new Row(MOST_WRITTEN);
        letters = new Row(MOST_LETTERS);
        letterSteps = new Row(MOST_LETTERS);
        shortOne = new Row(MOST_LETTERS);
        shortOther = new Row(MOST_LETTERS);
        works = new Works();
        images = new Works[IMAGES];
        for (int k = 0; k < IMAGES; k++) {
            images[k] = new Works();
        }
        reader = new Reader();
        shortener = new Shortener();
        board = new Board();
        keptImages = 0;
        toldFault = NONE;
    }

    // ---- 1 works

    public int say(int sign) {
        if (sign < FIRST_SIGN || sign > LAST_SIGN) {
            return OUTSIDE;
        }
        return pad.add(sign) ? pad.size() : FULL;
    }

    public int wipe() {
        int had = pad.size();
        pad.clear();
        return had;
    }

    public int fault() {
        return Reader.faultPlace(pad);
    }

    public int work(int work) {
        Row steps = works.row(work);
        if (steps == null) {
            return UNKNOWN;
        }
        int place = Reader.faultPlace(pad);
        if (place != NONE) {
            toldFault = place;
            return FAULT;
        }
        if (!reader.readSteps(pad, draft)) {
            return FULL;
        }
        steps.become(draft);
        pad.clear();
        return steps.size();
    }

    public int join(int to, int a, int b) {
        Row target = works.row(to);
        Row ahead = works.row(a);
        Row behind = works.row(b);
        if (target == null || ahead == null || behind == null) {
            return UNKNOWN;
        }
        if (ahead.size() + behind.size() > MOST_STEPS) {
            return FULL;
        }
        // The target may be one of the two: the draft keeps it whole till both are read.
        draft.become(ahead);
        draft.addAll(behind);
        target.become(draft);
        return target.size();
    }

    public int undone(int to, int from) {
        Row target = works.row(to);
        Row source = works.row(from);
        if (target == null || source == null) {
            return UNKNOWN;
        }
        // The target may be the source: the draft keeps it whole till it is read.
        draft.clear();
        for (int i = source.size() - 1; i >= 0; i--) {
            draft.add(opposite(source.get(i)));
        }
        target.become(draft);
        return target.size();
    }

    public int step(int work, int i, int what) {
        Row steps = works.row(work);
        if (steps == null) {
            return UNKNOWN;
        }
        if (i < -1 || what < 0 || what > 1) {
            return OUTSIDE;
        }
        if (i == -1) {
            return steps.size();
        }
        if (i >= steps.size()) {
            return NONE;
        }
        return what == 0 ? kindOf(steps.get(i)) : spotOf(steps.get(i));
    }

    public int written(int work, int k) {
        Row steps = works.row(work);
        if (steps == null) {
            return UNKNOWN;
        }
        if (k < -1) {
            return OUTSIDE;
        }
        writeOut(steps);
        return sizeOrItem(script, k);
    }

    // ---- 2 where bobbins lie

    public int at(int work, int i, int place) {
        Row steps = works.row(work);
        if (steps == null) {
            return UNKNOWN;
        }
        if (i < 0 || i > steps.size() || !isPlace(place)) {
            return OUTSIDE;
        }
        spell(steps, i);
        board.layBehind(letters);
        return board.bobbinAt(place);
    }

    public int met(int work, int one, int other, int what) {
        Row steps = works.row(work);
        if (steps == null) {
            return UNKNOWN;
        }
        if (!isPlace(one) || !isPlace(other) || one == other || what < 0 || what > 2) {
            return OUTSIDE;
        }
        spell(steps, steps.size());
        return meetings(one, other, what);
    }

    public int told(int work, int what) {
        Row steps = works.row(work);
        if (steps == null) {
            return UNKNOWN;
        }
        spell(steps, steps.size());
        board.layBehind(letters);
        switch (what) {
            case 0:
                return steps.size();
            case 1:
                return letters.size();
            case 2:
                return pinsIn(steps);
            case 3:
                return board.turnsTillAsAtFirst();
            case 4:
                return board.lyingAsAtFirst();
            case 5:
                return neverChanged();
            default:
                return OUTSIDE;
        }
    }

    public int pin(int work, int i, int what) {
        Row steps = works.row(work);
        if (steps == null) {
            return UNKNOWN;
        }
        if (what < 0 || what > 3) {
            return OUTSIDE;
        }
        int step = pinStep(steps, i);
        if (step == NONE || what == 0) {
            return step;
        }
        int spot = spotOf(steps.get(step));
        if (what == 1) {
            return spot;
        }
        spell(steps, step);
        board.layBehind(letters);
        return board.bobbinAt(2 * spot + (what == 2 ? 1 : 2));
    }

    // ---- 3 the same

    public int letter(int work, int i) {
        Row steps = works.row(work);
        if (steps == null) {
            return UNKNOWN;
        }
        if (i < -1) {
            return OUTSIDE;
        }
        spell(steps, steps.size());
        return sizeOrItem(letters, i);
    }

    public int shortest(int work, int i) {
        Row steps = works.row(work);
        if (steps == null) {
            return UNKNOWN;
        }
        if (i < -1) {
            return OUTSIDE;
        }
        shorten(steps, shortOne);
        return sizeOrItem(shortOne, i);
    }

    public int same(int one, int other) {
        Row first = works.row(one);
        Row second = works.row(other);
        if (first == null || second == null) {
            return UNKNOWN;
        }
        shorten(first, shortOne);
        shorten(second, shortOther);
        return shortOne.isLike(shortOther) ? 1 : 0;
    }

    public int part(int work) {
        Row steps = works.row(work);
        if (steps == null) {
            return UNKNOWN;
        }
        for (int length = 1; length < steps.size(); length++) {
            if (steps.size() % length == 0 && steps.comesAgainAfter(length)) {
                return length;
            }
        }
        return steps.size();
    }

    // ---- 4 images

    public int image(int k) {
        if (k < 0 || k >= IMAGES) {
            return OUTSIDE;
        }
        images[k].become(works);
        keptImages |= 1 << k;
        return 1;
    }

    public int restore(int k) {
        if (k < 0 || k >= IMAGES) {
            return OUTSIDE;
        }
        if ((keptImages & (1 << k)) == 0) {
            return STATE;
        }
        works.become(images[k]);
        return 1;
    }

    public int count(int what) {
        switch (what) {
            case 0:
                return pad.size();
            case 1:
                return works.stepsInAll();
            case 2:
                return toldFault;
            case 3:
                return keptImages;
            default:
                return OUTSIDE;
        }
    }

    // ---- a STEP is one number: its KIND and its SPOT

    private static int stepOf(int kind, int spot) {
        return SPOTS * kind + spot;
    }

    private static int kindOf(int step) {
        return step / SPOTS;
    }

    private static int spotOf(int step) {
        return step % SPOTS;
    }

    /** C and D stand side by side among the KINDS, and so do T and U: the last bit tells them apart. */
    private static int opposite(int step) {
        int kind = kindOf(step);
        return kind == KIND_P ? step : stepOf(kind ^ 1, spotOf(step));
    }

    private static int changesIn(int step) {
        int kind = kindOf(step);
        if (kind == KIND_P) {
            return 0;
        }
        return kind == KIND_T || kind == KIND_U ? 2 : 1;
    }

    /** The LETTER of the first (change = 0) or second (1) change of places in a STEP. */
    private static int letterOf(int step, int change) {
        int kind = kindOf(step);
        boolean twist = kind == KIND_T || kind == KIND_U;
        int place = 2 * spotOf(step) + (twist ? 2 * change : 1);
        return 10 * place + (kind == KIND_D || kind == KIND_T ? 1 : 0);
    }

    private static int placeOf(int letter) {
        return letter / 10;
    }

    private static boolean isRightOver(int letter) {
        return letter % 10 == 1;
    }

    private static boolean isPlace(int number) {
        return number >= 0 && number < PLACES;
    }

    // ---- what is found anew at each call

    private static int sizeOrItem(Row row, int i) {
        return i == -1 ? row.size() : row.get(i);
    }

    private void writeOut(Row steps) {
        script.clear();
        int spot = NONE;
        for (int i = 0; i < steps.size(); i++) {
            int step = steps.get(i);
            if (spotOf(step) != spot) {
                spot = spotOf(step);
                script.add('0' + spot);
            }
            script.add(signOf(kindOf(step)));
        }
    }

    private static int signOf(int kind) {
        return kind >= 0 && kind < KIND_SIGNS.length() ? KIND_SIGNS.charAt(kind) : NONE;
    }

    /** The LETTERS of the first STEPS of a WORK, and with which STEP each of them comes. */
    private void spell(Row steps, int howMany) {
        letters.clear();
        letterSteps.clear();
        for (int i = 0; i < howMany; i++) {
            int changes = changesIn(steps.get(i));
            for (int change = 0; change < changes; change++) {
                letters.add(letterOf(steps.get(i), change));
                letterSteps.add(i);
            }
        }
    }

    private void shorten(Row steps, Row result) {
        spell(steps, steps.size());
        shortener.shortForm(letters, result);
    }

    private int meetings(int one, int other, int what) {
        int overs = 0;
        int unders = 0;
        int first = NONE;
        board.layAsAtFirst();
        for (int i = 0; i < letters.size(); i++) {
            int upper = board.upper(letters.get(i));
            int lower = board.lower(letters.get(i));
            overs += upper == one && lower == other ? 1 : 0;
            unders += upper == other && lower == one ? 1 : 0;
            if (first == NONE && overs + unders > 0) {
                first = letterSteps.get(i);
            }
            board.swap(letters.get(i));
        }
        if (what == 0) {
            return overs + unders;
        }
        return what == 1 ? overs : first;
    }

    /** BOBBIN b, at PLACE b at first, never changes places just if nothing ever does at PLACE b. */
    private int neverChanged() {
        int set = (1 << PLACES) - 1;
        for (int i = 0; i < letters.size(); i++) {
            set &= ~(3 << placeOf(letters.get(i)));
        }
        return set;
    }

    private static int pinsIn(Row steps) {
        int pins = 0;
        for (int i = 0; i < steps.size(); i++) {
            pins += kindOf(steps.get(i)) == KIND_P ? 1 : 0;
        }
        return pins;
    }

    /** Which STEP the PIN with that number is, or NONE. */
    private static int pinStep(Row steps, int number) {
        int pins = 0;
        for (int i = 0; i < steps.size(); i++) {
            if (kindOf(steps.get(i)) == KIND_P) {
                if (pins == number) {
                    return i;
                }
                pins++;
            }
        }
        return NONE;
    }

    /** A row of numbers with room for so many; it never grows beyond that. */
    private static final class Row {
        private final int[] items;
        private int size;

        Row(int room) {
            items = new int[Math.max(room, 0)];
            size = 0;
        }

        int size() {
            return size;
        }

        int get(int i) {
            return i >= 0 && i < size && i < items.length ? items[i] : NONE;
        }

        boolean add(int item) {
            if (size < 0 || size >= items.length) {
                return false;
            }
            items[size] = item;
            size++;
            return true;
        }

        void clear() {
            size = 0;
        }

        void addAll(Row other) {
            int more = other.size();
            for (int i = 0; i < more; i++) {
                add(other.get(i));
            }
        }

        void become(Row other) {
            clear();
            addAll(other);
        }

        boolean isLike(Row other) {
            if (size != other.size()) {
                return false;
            }
            for (int i = 0; i < size; i++) {
                if (get(i) != other.get(i)) {
                    return false;
                }
            }
            return true;
        }

        boolean comesAgainAfter(int length) {
            for (int i = length; i < size; i++) {
                if (get(i) != get(i - length)) {
                    return false;
                }
            }
            return true;
        }
    }

    /** All WORKS together, as they are now or as an IMAGE keeps them. */
    private static final class Works {
        private final Row[] rows;

        Works() {
            rows = new Row[WORKS];
            for (int i = 0; i < WORKS; i++) {
                rows[i] = new Row(MOST_STEPS);
            }
        }

        /** The STEPS of a WORK; null, if there is no such WORK. */
        Row row(int number) {
            return number >= 0 && number < rows.length ? rows[number] : null;
        }

        void become(Works other) {
            for (int i = 0; i < rows.length; i++) {
                Row kept = other.row(i);
                if (kept != null) {
                    rows[i].become(kept);
                }
            }
        }

        int stepsInAll() {
            int steps = 0;
            for (int i = 0; i < rows.length; i++) {
                steps += rows[i].size();
            }
            return steps;
        }
    }

    /** Reads THE PAD: where its FAULT is, and the STEPS that it tells. */
    private static final class Reader {
        private int spot;
        private boolean tooMany;

        Reader() {
            spot = 0;
            tooMany = false;
        }

        static int faultPlace(Row signs) {
            int open = 0;
            boolean timesDue = false;
            for (int i = 0; i < signs.size(); i++) {
                int sign = signs.get(i);
                if (!canStand(sign, open, timesDue)) {
                    return i;
                }
                timesDue = sign == ')';
                if (sign == '(') {
                    open++;
                } else if (timesDue) {
                    open--;
                }
            }
            return open > 0 || timesDue ? signs.size() : NONE;
        }

        private static boolean canStand(int sign, int open, boolean timesDue) {
            if (timesDue) {
                return sign >= '1' && sign <= '9';
            }
            if (sign == '(') {
                return open < MOST_OPEN;
            }
            if (sign == ')') {
                return open > 0;
            }
            return isSpot(sign) || KIND_SIGNS.indexOf((char) sign) >= 0;
        }

        private static boolean isSpot(int sign) {
            return sign >= '0' && sign < '0' + SPOTS;
        }

        /** The STEPS that signs without a FAULT tell: whether there is room for all of them. */
        boolean readSteps(Row signs, Row steps) {
            steps.clear();
            spot = 0;
            tooMany = false;
            readText(signs, steps, 0, 0);
            return !tooMany;
        }

        /** Reads up to the ) that ends this TEXT, or to the end of THE PAD: the place of that. */
        private int readText(Row signs, Row steps, int from, int depth) {
            int i = from;
            while (i < signs.size() && !tooMany && signs.get(i) != ')') {
                if (signs.get(i) == '(') {
                    i = Math.max(i + 1, readPart(signs, steps, i, depth));
                } else {
                    readSign(signs.get(i), steps);
                    i++;
                }
            }
            return i;
        }

        /** Reads the PART whose ( is there, as often as it says: the place behind it. */
        private int readPart(Row signs, Row steps, int open, int depth) {
            if (depth >= MOST_OPEN) {
                return signs.size();
            }
            int had = steps.size();
            int close = readText(signs, steps, open + 1, depth + 1);
            int times = signs.get(close + 1) - '0';
            // Without a STEP, one time tells all: SPOT is then what any more times would leave.
            for (int time = 1; time < times && steps.size() > had && !tooMany; time++) {
                readText(signs, steps, open + 1, depth + 1);
            }
            return close + 2;
        }

        private void readSign(int sign, Row steps) {
            if (isSpot(sign)) {
                spot = sign - '0';
            } else {
                tooMany = !steps.add(stepOf(KIND_SIGNS.indexOf((char) sign), spot));
            }
        }
    }

    /** Which BOBBIN lies at which PLACE. */
    private static final class Board {
        private final int[] lying;
        private final int[] turned;

        Board() {
            lying = new int[PLACES];
            turned = new int[PLACES];
        }

        void layAsAtFirst() {
            for (int place = 0; place < lying.length; place++) {
                lying[place] = place;
            }
        }

        void layBehind(Row letters) {
            layAsAtFirst();
            for (int i = 0; i < letters.size(); i++) {
                swap(letters.get(i));
            }
        }

        int bobbinAt(int place) {
            return place >= 0 && place < lying.length ? lying[place] : NONE;
        }

        int upper(int letter) {
            return bobbinAt(placeOf(letter) + (isRightOver(letter) ? 1 : 0));
        }

        int lower(int letter) {
            return bobbinAt(placeOf(letter) + (isRightOver(letter) ? 0 : 1));
        }

        void swap(int letter) {
            int place = placeOf(letter);
            if (place >= 0 && place < lying.length - 1) {
                int left = lying[place];
                lying[place] = lying[place + 1];
                lying[place + 1] = left;
            }
        }

        int lyingAsAtFirst() {
            int bobbins = 0;
            for (int place = 0; place < lying.length; place++) {
                bobbins += lying[place] == place ? 1 : 0;
            }
            return bobbins;
        }

        /** How many times the BOBBINS are laid as they lie now, till all are as at first. */
        int turnsTillAsAtFirst() {
            for (int place = 0; place < turned.length; place++) {
                turned[place] = place;
            }
            for (int turn = 1; turn < MOST_TURNS; turn++) {
                if (turnOnce()) {
                    return turn;
                }
            }
            return MOST_TURNS;
        }

        private boolean turnOnce() {
            boolean asAtFirst = true;
            for (int place = 0; place < turned.length; place++) {
                turned[place] = bobbinAt(turned[place]);
                asAtFirst = asAtFirst && turned[place] == place;
            }
            return asAtFirst;
        }
    }

    /**
     * Finds THE SHORT FORM of a row of LETTERS.
     *
     * LETTERS whose PLACES are 0 or 1 apart never pass one another, so that it is enough to know, for
     * each PLACE, which LETTER is its last one (or its next one), and to compare with the PLACES beside
     * it. The rows for PLACES have one element more at both ends, so that each PLACE has two beside it.
     */
    private static final class Shortener {
        private static final int NO_LETTER = -1;

        /** For a LETTER: the one that stays next before it, of the same PLACE. */
        private final int[] before;
        private final boolean[] stays;
        private final int[] last;
        private final int[] next;

        Shortener() {
            before = new int[MOST_LETTERS];
            stays = new boolean[MOST_LETTERS];
            last = new int[CHANGE_PLACES + 2];
            next = new int[CHANGE_PLACES + 2];
        }

        void shortForm(Row letters, Row result) {
            markWhatStays(letters);
            putLeastFirst(letters, result);
        }

        private void markWhatStays(Row letters) {
            Arrays.fill(last, NO_LETTER);
            int size = Math.min(letters.size(), stays.length);
            for (int i = 0; i < size; i++) {
                int p = placeOf(letters.get(i)) + 1;
                if (p < 1 || p > CHANGE_PLACES) {
                    continue;
                }
                int other = last[p];
                if (other >= 0 && other < i && isFree(p) && letters.get(other) != letters.get(i)) {
                    stays[i] = false;
                    stays[other] = false;
                    last[p] = before[other];
                } else {
                    stays[i] = true;
                    before[i] = other;
                    last[p] = i;
                }
            }
        }

        /** Whether the last LETTER of a PLACE can be moved to the end of the row. */
        private boolean isFree(int p) {
            return last[p] > last[p - 1] && last[p] > last[p + 1];
        }

        /** Of LETTERS that can come next each has another PLACE, so the least PLACE is the least LETTER. */
        private void putLeastFirst(Row letters, Row result) {
            result.clear();
            int size = Math.min(letters.size(), stays.length);
            Arrays.fill(next, size);
            for (int p = 1; p <= CHANGE_PLACES; p++) {
                next[p] = nextThatStays(letters, 0, p);
            }
            for (int i = 0; i < size; i++) {
                int p = leastPlaceThatCanCome(size);
                if (p == NONE) {
                    return;
                }
                result.add(letters.get(next[p]));
                next[p] = nextThatStays(letters, next[p] + 1, p);
            }
        }

        private int nextThatStays(Row letters, int from, int p) {
            int size = Math.min(letters.size(), stays.length);
            for (int i = Math.max(from, 0); i < size; i++) {
                if (stays[i] && placeOf(letters.get(i)) + 1 == p) {
                    return i;
                }
            }
            return size;
        }

        private int leastPlaceThatCanCome(int size) {
            for (int p = 1; p <= CHANGE_PLACES; p++) {
                if (next[p] < size && next[p] < next[p - 1] && next[p] < next[p + 1]) {
                    return p;
                }
            }
            return NONE;
        }
    }
}
