/** Clay men in a street who do what the slips in their mouths say; see ../shared/DOC.md. */
public final class ClaySlips {
    public static final int NONE = -1, BAD = -2, NO = -3, FULL = -4;

    /** What is answered for BAD where a number below NONE could be mistaken. */
    private static final int BAD_TEN = -10;
    private static final int NOT_SO_MANY = -5;
    private static final int FAULTY_TEXT = -10;
    private static final int REFUSED_ITEM = -1000;

    private static final int MOST_CELLS = 9, FIRST_CELLS = 6, MOST_WATER = 20, MOST_LOAD = 20;
    private static final int MOST_MEN = 3, MOST_SIGNS = 24, MOST_BYTES = 200, MOST_UNDONE = 20;
    private static final int MOST_STEPS = 400, MOST_STEPS_BETWEEN = 60, ROUND = 14;
    private static final int MOST_SEEN = 4, MOST_SHORT = 5, THIEF_SIGNS = 6, IMAGES = 2;

    private static final int LEFT = 0, RIGHT = 1, FETCH = 2, PUT = 3, HALT = 5, WAIT = 6;
    private static final int OPEN = 7, CLOSE = 8, IF_WATER = 9, IF_NO_WATER = 10, IF_LOAD = 11, IF_NO_LOAD = 12;
    private static final int SIGNS = 14;

    private static final int KINDS = 6, DEAF = 3, PIOUS = 5;
    private static final int[] FETCHES_AT_ONCE = {1, 2, 1, 1, 20, 1};
    private static final int[] IS_LAME = {0, 0, 1, 0, 0, 1};

    /** A row tells all that steps change: water of nine cells, four numbers of each man, the steps' number. */
    private static final int ROW_MEN = MOST_CELLS, ROW_MAN = 4, ROW_NUMBER = ROW_MEN + MOST_MEN * ROW_MAN;
    private static final int ROW = ROW_NUMBER + 1;

    /** All orders of three men, the first ahead. */
    private static final int ORDERS = 6;
    private static final int[] ORDER = {0, 1, 2, 0, 2, 1, 1, 0, 2, 1, 2, 0, 2, 0, 1, 2, 1, 0};

    private final Street now = new Street();
    private final Past past = new Past();
    private final Street trial = new Street();
    private final Street whole = new Street();
    private final Street[] imageStreets = {new Street(), new Street()};
    private final Past[] imagePasts = {new Past(), new Past()};
    private final boolean[] imageKept = new boolean[IMAGES];
    private final Text text = new Text();
    private final int[][] behind = new int[MOST_STEPS + 1][ROW];
    private final int[] waitedBy = new int[MOST_STEPS];
    private final int[] start = new int[ROW];
    private int badCalls = 0;
    private int noCalls = 0;
    private int fullCalls = 0;

    public ClaySlips() {
    }

    // ---- a street

    public int street(int n) {
        int was = now.cells;
        int answer = now.begin(n);
        if (answer < 0) {
            return refused(answer);
        }
        past.kept = 0;
        return was;
    }

    public int water(int cell, int v) {
        return told(now.pour(cell, v));
    }

    public int man(int kind, int cell) {
        return told(now.enter(kind, cell));
    }

    public int write(int man, int sign) {
        return told(now.append(man, sign));
    }

    public int rub(int man) {
        return told(now.empty(man));
    }

    public int fault(int man) {
        if (!now.hasMan(man)) {
            return bad(BAD_TEN);
        }
        return now.men[man].flaw;
    }

    public int type(long v, int n) {
        if (n < 1 || n > 8) {
            return bad(BAD);
        }
        if (text.length + n > MOST_BYTES) {
            return refused(FULL);
        }
        for (int k = n - 1; k >= 0; k--) {
            text.bytes[text.length] = (int) ((v >> (8 * k)) & 255L);
            text.length++;
        }
        return text.length;
    }

    public int clear() {
        int was = text.length;
        text.length = 0;
        return was;
    }

    public int read() {
        int items = text.tell(trial);
        if (text.flaw != NONE) {
            return FAULTY_TEXT - text.flaw;
        }
        if (text.refusedItem != NONE) {
            return REFUSED_ITEM - text.refusedItem;
        }
        now.copy(trial);
        past.kept = 0;
        return items;
    }

    // ---- steps

    public int step() {
        past.keep(now);
        return now.advance();
    }

    public int undo() {
        if (past.kept == 0) {
            noCalls++;
            return NO;
        }
        past.giveBack(now);
        return 1;
    }

    public int of(int man, int what) {
        if (!now.hasMan(man) || what < 0 || what > 3) {
            return bad(BAD);
        }
        Man m = now.men[man];
        switch (what) {
            case 0: return m.cell;
            case 1: return m.load;
            case 2: return m.place;
            default: return m.hasStopped() ? 1 : 0;
        }
    }

    public int in(int cell) {
        if (!now.hasCell(cell)) {
            return bad(BAD);
        }
        return now.water[cell];
    }

    public int run(int m, int cell, int what) {
        if (m < 0 || m > MOST_STEPS || !now.hasCell(cell) || what < 0 || what > 1 || (what == 1 && cell != 0)) {
            return bad(BAD_TEN);
        }
        trial.copy(now);
        trial.advanceBy(m);
        return what == 0 ? trial.water[cell] : trial.awake();
    }

    public int stops() {
        trial.copy(now);
        return trial.settle();
    }

    public int again(int what) {
        if (what < 0 || what > 2) {
            return bad(BAD_TEN);
        }
        trial.copy(now);
        trial.save(behind[0]);
        for (int t = 1; t <= MOST_STEPS; t++) {
            trial.advance();
            trial.save(behind[t]);
            waitedBy[t - 1] = trial.waiting;
            int s = earlier(t);
            if (s != NONE) {
                return what == 0 ? t : what == 1 ? s : waitingAlways(s, t);
            }
        }
        return NONE;
    }

    // ---- slips

    public int rubbed(int man, int i) {
        if (!now.hasMan(man) || i < 0 || i >= now.men[man].length) {
            return bad(BAD);
        }
        return leadsTo(man, i, endOfWhole());
    }

    public int danger(int man) {
        if (!now.hasMan(man)) {
            return bad(BAD);
        }
        boolean ends = endOfWhole();
        int dangerous = 0;
        for (int i = 0; i < now.men[man].length; i++) {
            if (leadsTo(man, i, ends) != 1) {
                dangerous++;
            }
        }
        return dangerous;
    }

    public int thief(int man, int cell) {
        if (!now.hasMan(man) || !now.hasCell(cell) || now.men[man].length >= MOST_SIGNS) {
            return bad(BAD);
        }
        int best = NONE;
        int most = -1;
        trial.copy(now);
        now.save(start);
        for (int place = 0; place <= now.men[man].length; place++) {
            for (int sign = 0; sign < THIEF_SIGNS; sign++) {
                trial.load(start);
                trial.men[man].takeWith(now.men[man], place, sign);
                if (trial.settle() != NONE && trial.water[cell] > most) {
                    most = trial.water[cell];
                    best = 10 * place + sign;
                }
            }
        }
        return best;
    }

    public int shortest(int man, int cell, int v, int i) {
        if (!now.hasMan(man) || !now.hasCell(cell) || v < 0 || v > MOST_WATER || i < NONE) {
            return bad(BAD_TEN);
        }
        trial.copy(now);
        now.save(start);
        for (int length = 0; length <= MOST_SHORT; length++) {
            int all = 1 << (2 * length);
            for (int code = 0; code < all; code++) {
                trial.load(start);
                trial.men[man].takeShort(length, code);
                if (trial.settle() != NONE && trial.water[cell] == v) {
                    return partOfShort(length, code, i);
                }
            }
        }
        return NONE;
    }

    public int seen(int i, int c) {
        if (i < 1 || i > MOST_SEEN || !now.hasCell(c)) {
            return bad(BAD);
        }
        int was = now.seenCells[i - 1];
        now.seenCells[i - 1] = c;
        return was;
    }

    public int said(int man, int m) {
        if (!now.hasMan(man) || m < 1 || m > MOST_SEEN) {
            return bad(BAD);
        }
        int kind = now.men[man].kind;
        int cell = now.men[man].cell;
        int slips = 1;
        for (int i = 0; i < m; i++) {
            int next = now.seenCells[i];
            slips = slips * signsLeading(kind, cell, next, now.number + i);
            cell = next;
        }
        return slips;
    }

    public int emptied(int m, int cell, int i) {
        if (m < 0 || m > MOST_STEPS_BETWEEN || !now.hasCell(cell) || i < NONE) {
            return bad(BAD_TEN);
        }
        if (i >= now.menCount) {
            return NOT_SO_MANY;
        }
        int best = 0;
        int most = -1;
        for (int order = 0; order < ORDERS; order++) {
            int left = leftWhenEmptied(m, cell, order);
            if (left > most) {
                most = left;
                best = order;
            }
        }
        return i == NONE ? most : ORDER[MOST_MEN * best + i];
    }

    // ---- what there is

    public int image(int i) {
        if (i < 0 || i >= IMAGES) {
            return bad(BAD);
        }
        imageStreets[i].copy(now);
        imagePasts[i].copy(past);
        imageKept[i] = true;
        return 1;
    }

    public int from(int i) {
        if (i < 0 || i >= IMAGES) {
            return bad(BAD);
        }
        if (!imageKept[i]) {
            noCalls++;
            return NO;
        }
        now.copy(imageStreets[i]);
        past.copy(imagePasts[i]);
        return 1;
    }

    public int status(int what) {
        switch (what) {
            case 0: return badCalls;
            case 1: return noCalls;
            case 2: return fullCalls;
            default: return bad(-1);
        }
    }

    public int count(int what) {
        if (what < 0 || what > 4) {
            return bad(BAD);
        }
        return howMany(what);
    }

    public long digest() {
        long h = 809;
        for (int what = 0; what <= 4; what++) {
            h = 31 * h + howMany(what);
        }
        for (int c = 0; c < now.cells; c++) {
            h = 31 * h + now.water[c];
        }
        for (int i = 0; i < now.menCount; i++) {
            h = now.men[i].digestOn(h);
        }
        for (int i = 0; i < MOST_SEEN; i++) {
            h = 31 * h + now.seenCells[i];
        }
        return h;
    }

    private int bad(int answer) {
        badCalls++;
        return answer;
    }

    private int refused(int answer) {
        if (answer == FULL) {
            fullCalls++;
        } else {
            badCalls++;
        }
        return answer;
    }

    /** What is told anew leaves no step that may be undone. */
    private int told(int answer) {
        if (answer < 0) {
            return refused(answer);
        }
        past.kept = 0;
        return answer;
    }

    private int howMany(int what) {
        switch (what) {
            case 0: return now.cells;
            case 1: return now.menCount;
            case 2: return now.number;
            case 3: return past.kept;
            default: return text.length;
        }
    }

    /** Only steps whose numbers leave the same over by 14 can be like. */
    private int earlier(int t) {
        for (int s = t % ROUND; s < t; s += ROUND) {
            if (sameRows(behind[s], behind[t])) {
                return s;
            }
        }
        return NONE;
    }

    private int waitingAlways(int s, int t) {
        int bits = (1 << MOST_MEN) - 1;
        for (int k = s; k < t; k++) {
            bits &= waitedBy[k];
        }
        return bits;
    }

    /** Leaves in whole how all ends with no sign rubbed off. */
    private boolean endOfWhole() {
        whole.copy(now);
        return whole.settle() != NONE;
    }

    private int leadsTo(int man, int i, boolean wholeEnds) {
        trial.copy(now);
        trial.men[man].takeWithout(now.men[man], i);
        if (trial.men[man].flaw != NONE) {
            return 0;
        }
        if (trial.settle() == NONE) {
            return 3;
        }
        return wholeEnds && trial.endsAs(whole) ? 1 : 2;
    }

    private static int partOfShort(int length, int code, int i) {
        if (i == NONE) {
            return length;
        }
        return i >= length ? NOT_SO_MANY : shortSign(length, code, i);
    }

    /** The signs of a short slip are the figures of its code to the base 4, so that codes count in the signs' order. */
    private static int shortSign(int length, int code, int i) {
        return (code >> (2 * (length - 1 - i))) & 3;
    }

    private int signsLeading(int kind, int cell, int next, int number) {
        int signs = 0;
        for (int sign = LEFT; sign <= PUT + 1; sign++) {
            if (goal(kind, cell, sign, number, now.cells) == next) {
                signs++;
            }
        }
        return signs;
    }

    private int leftWhenEmptied(int m, int cell, int order) {
        trial.copy(now);
        for (int k = 0; k < MOST_MEN; k++) {
            int man = ORDER[MOST_MEN * order + k];
            if (trial.hasMan(man)) {
                trial.advanceBy(m);
                trial.empty(man);
            }
        }
        return trial.water[cell];
    }

    /** The cell where a sign takes a man of a kind in the step of a number. */
    private static int goal(int kind, int cell, int sign, int number, int cells) {
        if (IS_LAME[kind] == 1 && number % 2 == 1) {
            return cell;
        }
        if (sign == LEFT && cell > 0) {
            return cell - 1;
        }
        if (sign == RIGHT && cell < cells - 1) {
            return cell + 1;
        }
        return cell;
    }

    private static boolean sameRows(int[] one, int[] other) {
        for (int k = 0; k < ROW_NUMBER; k++) {
            if (one[k] != other[k]) {
                return false;
            }
        }
        return true;
    }

    /** A man with his slip; flaw and partner are worked out anew when a sign changes. */
    private static final class Man {
        final int[] signs = new int[MOST_SIGNS];
        final int[] partner = new int[MOST_SIGNS];
        int length = 0;
        int flaw = NONE;
        int kind = 0;
        int cell = 0;
        int load = 0;
        int place = 0;
        boolean halted = false;

        boolean hasStopped() {
            return halted || length == 0 || flaw != NONE;
        }

        void copy(Man other) {
            kind = other.kind;
            cell = other.cell;
            load = other.load;
            place = other.place;
            halted = other.halted;
            length = other.length;
            flaw = other.flaw;
            System.arraycopy(other.signs, 0, signs, 0, other.length);
            System.arraycopy(other.partner, 0, partner, 0, other.length);
        }

        /** Open brackets not yet closed are chained by their partners, the innermost one first. */
        void learn() {
            int innermost = NONE;
            boolean opened = false;
            flaw = NONE;
            for (int i = 0; i < length; i++) {
                int sign = signs[i];
                boolean question = sign >= IF_WATER;
                if (question != opened || (sign == CLOSE && innermost == NONE)) {
                    flaw = i;
                    return;
                }
                opened = sign == OPEN;
                if (opened) {
                    partner[i] = innermost;
                    innermost = i;
                } else if (sign == CLOSE) {
                    partner[i] = innermost;
                    innermost = partner[innermost];
                    partner[partner[i]] = i;
                }
            }
            if (innermost != NONE) {
                flaw = length;
            }
        }

        void takeWithout(Man other, int i) {
            for (int k = i; k < other.length - 1; k++) {
                signs[k] = other.signs[k + 1];
            }
            length = other.length - 1;
            place = other.place > i ? other.place - 1 : other.place;
            learn();
        }

        /** For a slip with room for one sign more. */
        void takeWith(Man other, int at, int sign) {
            System.arraycopy(other.signs, 0, signs, 0, at);
            signs[at] = sign;
            System.arraycopy(other.signs, at, signs, at + 1, other.length - at);
            length = other.length + 1;
            place = other.place > at ? other.place + 1 : other.place;
            learn();
        }

        void takeShort(int howLong, int code) {
            for (int i = 0; i < howLong; i++) {
                signs[i] = shortSign(howLong, code, i);
            }
            length = howLong;
            place = 0;
            halted = false;
            flaw = NONE;
        }

        long digestOn(long h) {
            h = 31 * h + kind;
            h = 31 * h + cell;
            h = 31 * h + load;
            h = 31 * h + place;
            h = 31 * h + (hasStopped() ? 1 : 0);
            h = 31 * h + length;
            for (int i = 0; i < length; i++) {
                h = 31 * h + signs[i];
            }
            return h;
        }
    }

    /** Cells, water, men, the steps' number, and the cells told for SAID. */
    private static final class Street {
        final int[] water = new int[MOST_CELLS];
        final Man[] men = {new Man(), new Man(), new Man()};
        final int[] seenCells = new int[MOST_SEEN];
        final int[] mark = new int[ROW];
        int cells = FIRST_CELLS;
        int menCount = 0;
        int number = 0;
        /** Who waited in vain in the last step, as bits. */
        int waiting = 0;

        boolean hasMan(int man) {
            return man >= 0 && man < menCount;
        }

        boolean hasCell(int cell) {
            return cell >= 0 && cell < cells;
        }

        int begin(int n) {
            if (n < 2 || n > MOST_CELLS) {
                return BAD;
            }
            cells = n;
            menCount = 0;
            number = 0;
            for (int c = 0; c < MOST_CELLS; c++) {
                water[c] = 0;
            }
            for (int i = 0; i < MOST_SEEN; i++) {
                seenCells[i] = 0;
            }
            return n;
        }

        int pour(int cell, int v) {
            if (!hasCell(cell) || v < 0 || v > MOST_WATER) {
                return BAD;
            }
            int was = water[cell];
            water[cell] = v;
            return was;
        }

        int enter(int kind, int cell) {
            if (kind < 0 || kind >= KINDS || !hasCell(cell)) {
                return BAD;
            }
            if (menCount >= MOST_MEN) {
                return FULL;
            }
            Man m = men[menCount];
            m.kind = kind;
            m.cell = cell;
            m.load = 0;
            m.place = 0;
            m.halted = false;
            m.length = 0;
            m.flaw = NONE;
            menCount++;
            return menCount - 1;
        }

        int append(int man, int sign) {
            if (!hasMan(man) || sign < 0 || sign >= SIGNS) {
                return BAD;
            }
            Man m = men[man];
            if (m.length >= MOST_SIGNS) {
                return FULL;
            }
            m.signs[m.length] = sign;
            m.length++;
            m.learn();
            if (m.flaw == NONE) {
                m.halted = false;
            }
            return m.length;
        }

        int empty(int man) {
            if (!hasMan(man)) {
                return BAD;
            }
            Man m = men[man];
            int was = m.length;
            m.length = 0;
            m.place = 0;
            m.flaw = NONE;
            return was;
        }

        void copy(Street other) {
            cells = other.cells;
            menCount = other.menCount;
            number = other.number;
            System.arraycopy(other.water, 0, water, 0, MOST_CELLS);
            System.arraycopy(other.seenCells, 0, seenCells, 0, MOST_SEEN);
            for (int i = 0; i < menCount; i++) {
                men[i].copy(other.men[i]);
            }
        }

        void save(int[] row) {
            System.arraycopy(water, 0, row, 0, MOST_CELLS);
            for (int i = 0; i < menCount; i++) {
                Man m = men[i];
                int at = ROW_MEN + ROW_MAN * i;
                row[at] = m.cell;
                row[at + 1] = m.load;
                row[at + 2] = m.place;
                row[at + 3] = m.halted ? 1 : 0;
            }
            for (int at = ROW_MEN + ROW_MAN * menCount; at < ROW_NUMBER; at++) {
                row[at] = 0;
            }
            row[ROW_NUMBER] = number;
        }

        void load(int[] row) {
            System.arraycopy(row, 0, water, 0, MOST_CELLS);
            for (int i = 0; i < menCount; i++) {
                Man m = men[i];
                int at = ROW_MEN + ROW_MAN * i;
                m.cell = row[at];
                m.load = row[at + 1];
                m.place = row[at + 2];
                m.halted = row[at + 3] == 1;
            }
            number = row[ROW_NUMBER];
        }

        boolean isAt(int[] row) {
            for (int i = 0; i < menCount; i++) {
                Man m = men[i];
                int at = ROW_MEN + ROW_MAN * i;
                if (m.place != row[at + 2] || m.cell != row[at] || m.load != row[at + 1]
                        || m.halted != (row[at + 3] == 1)) {
                    return false;
                }
            }
            for (int c = 0; c < cells; c++) {
                if (water[c] != row[c]) {
                    return false;
                }
            }
            return true;
        }

        boolean endsAs(Street other) {
            for (int i = 0; i < menCount; i++) {
                if (men[i].cell != other.men[i].cell || men[i].load != other.men[i].load) {
                    return false;
                }
            }
            for (int c = 0; c < cells; c++) {
                if (water[c] != other.water[c]) {
                    return false;
                }
            }
            return true;
        }

        int awake() {
            int awake = 0;
            for (int i = 0; i < menCount; i++) {
                if (!men[i].hasStopped()) {
                    awake++;
                }
            }
            return awake;
        }

        /** A step of all; answers how many have not stopped behind it. */
        int advance() {
            waiting = 0;
            for (int i = 0; i < menCount; i++) {
                if (!men[i].hasStopped()) {
                    act(i);
                }
            }
            number++;
            return awake();
        }

        void advanceBy(int steps) {
            for (int t = 0; t < steps; t++) {
                advance();
            }
        }

        /**
         * How many steps until all have stopped, or NONE. How all was some rounds ago is marked, at
         * ever longer distances: who comes back there never stops, and need not be followed on.
         */
        int settle() {
            int awake = awake();
            int nextMark = ROUND;
            save(mark);
            for (int t = 0; t <= MOST_STEPS; t++) {
                if (awake == 0) {
                    return t;
                }
                if (t > 0 && t % ROUND == 0) {
                    if (isAt(mark)) {
                        return NONE;
                    }
                    if (t == nextMark) {
                        save(mark);
                        nextMark = 2 * nextMark;
                    }
                }
                awake = advance();
            }
            return NONE;
        }

        private void act(int man) {
            Man m = men[man];
            if (m.place >= m.length) {
                m.halted = true;
                return;
            }
            int sign = m.signs[m.place];
            if (sign == OPEN) {
                m.place = holds(m, m.signs[m.place + 1]) ? m.place + 2 : m.partner[m.place] + 1;
            } else if (sign == CLOSE) {
                m.place = m.partner[m.place];
            } else if (sign == WAIT && m.kind != DEAF && isAlone(man)) {
                waiting |= 1 << man;
            } else {
                work(m, sign);
                m.place++;
            }
        }

        private boolean holds(Man m, int question) {
            switch (question) {
                case IF_WATER: return water[m.cell] > 0;
                case IF_NO_WATER: return water[m.cell] == 0;
                case IF_LOAD: return m.load > 0;
                case IF_NO_LOAD: return m.load == 0;
                default: return true;
            }
        }

        private boolean isAlone(int man) {
            for (int i = 0; i < menCount; i++) {
                if (i != man && men[i].cell == men[man].cell) {
                    return false;
                }
            }
            return true;
        }

        private void work(Man m, int sign) {
            boolean rests = m.kind == PIOUS && number % 7 == 6;
            if (sign == FETCH && !rests) {
                fetch(m);
            } else if (sign == PUT && !rests) {
                put(m);
            } else if (sign == HALT) {
                m.halted = true;
            } else {
                m.cell = goal(m.kind, m.cell, sign, number, cells);
            }
        }

        private void fetch(Man m) {
            for (int k = 0; k < FETCHES_AT_ONCE[m.kind]; k++) {
                if (water[m.cell] > 0 && m.load < MOST_LOAD) {
                    water[m.cell]--;
                    m.load++;
                }
            }
        }

        private void put(Man m) {
            if (m.load > 0 && water[m.cell] < MOST_WATER) {
                m.load--;
                water[m.cell]++;
            }
        }
    }

    /** How all was ahead of the last steps: the row ahead of step k is k by 20 left over. */
    private static final class Past {
        final int[][] rows = new int[MOST_UNDONE][ROW];
        int kept = 0;

        void keep(Street street) {
            street.save(rows[street.number % MOST_UNDONE]);
            kept = Math.min(kept + 1, MOST_UNDONE);
        }

        /** For a past that keeps a step. */
        void giveBack(Street street) {
            street.load(rows[(street.number - 1) % MOST_UNDONE]);
            kept--;
        }

        void copy(Past other) {
            kept = other.kept;
            for (int k = 0; k < MOST_UNDONE; k++) {
                System.arraycopy(other.rows[k], 0, rows[k], 0, ROW);
            }
        }
    }

    /** The text, and the reading of it: one token is looked at, at a time. */
    private static final class Text {
        private static final int END = 0, WRONG = 1, NUMBER = 2, QUOTED = 3, ENDING = 4;
        private static final int STREET = 5, WATER = 6, MAN = 7, SLIP = 8;
        private static final String SIGN_BYTES = "<>+-.!?()wnlea";

        final int[] bytes = new int[MOST_BYTES];
        final int[] numbers = new int[2];
        int length = 0;
        int flaw = NONE;
        int refusedItem = NONE;
        int token = END;
        int tokenStart = 0;
        int tokenEnd = 0;
        int slipStart = 0;
        int slipEnd = 0;

        /** Tells the street anew to the last byte, for a fault counts ahead of an item refused; answers the items. */
        int tell(Street street) {
            flaw = NONE;
            refusedItem = NONE;
            tokenEnd = 0;
            advanceToken();
            for (int items = 0; items <= MOST_BYTES; items++) {
                if (items > 0 && token == END) {
                    return items;
                }
                int word = token;
                boolean mayStand = items == 0 ? word == STREET : word == WATER || word == MAN || word == SLIP;
                if (!expect(mayStand) || !readRest(word)) {
                    return NONE;
                }
                if (refusedItem == NONE && obey(street, word) < 0) {
                    refusedItem = items;
                }
            }
            return NONE;
        }

        private boolean expect(boolean mayStand) {
            if (!mayStand) {
                flaw = tokenStart;
                return false;
            }
            advanceToken();
            return true;
        }

        private boolean readRest(int word) {
            int howMany = word == WATER || word == MAN ? 2 : 1;
            for (int k = 0; k < howMany; k++) {
                numbers[k] = value();
                if (!expect(token == NUMBER)) {
                    return false;
                }
            }
            if (word == SLIP) {
                slipStart = tokenStart + 1;
                slipEnd = tokenEnd - 1;
                if (!expect(token == QUOTED)) {
                    return false;
                }
            }
            return expect(token == ENDING);
        }

        private int obey(Street street, int word) {
            switch (word) {
                case STREET: return street.begin(numbers[0]);
                case WATER: return street.pour(numbers[0], numbers[1]);
                case MAN: return street.enter(numbers[0], numbers[1]);
                default: return writeSlip(street);
            }
        }

        private int writeSlip(Street street) {
            int answer = BAD;
            for (int k = slipStart; k < slipEnd; k++) {
                answer = street.append(numbers[0], SIGN_BYTES.indexOf((char) bytes[k]));
                if (answer < 0) {
                    return answer;
                }
            }
            return answer;
        }

        private int value() {
            int value = 0;
            if (token == NUMBER) {
                for (int k = tokenStart; k < tokenEnd; k++) {
                    value = 10 * value + bytes[k] - '0';
                }
            }
            return value;
        }

        /** The end is a token that starts where the text's length is. */
        private void advanceToken() {
            int at = tokenEnd;
            while (at < length && bytes[at] == ' ') {
                at++;
            }
            tokenStart = at;
            tokenEnd = at;
            if (at >= length) {
                token = END;
            } else if (isLetter(bytes[at])) {
                takeWord();
            } else if (isFigure(bytes[at])) {
                takeNumber();
            } else if (bytes[at] == '"') {
                takeQuoted();
            } else {
                tokenEnd = at + 1;
                token = bytes[at] == ';' ? ENDING : WRONG;
            }
        }

        private static boolean isLetter(int b) {
            return b >= 'a' && b <= 'z';
        }

        private static boolean isFigure(int b) {
            return b >= '0' && b <= '9';
        }

        private void takeWord() {
            while (tokenEnd < length && isLetter(bytes[tokenEnd])) {
                tokenEnd++;
            }
            if (tokenIs("street")) {
                token = STREET;
            } else if (tokenIs("water")) {
                token = WATER;
            } else if (tokenIs("man")) {
                token = MAN;
            } else {
                token = tokenIs("slip") ? SLIP : WRONG;
            }
        }

        private boolean tokenIs(String word) {
            if (word.length() != tokenEnd - tokenStart) {
                return false;
            }
            for (int k = 0; k < word.length(); k++) {
                if (word.charAt(k) != bytes[tokenStart + k]) {
                    return false;
                }
            }
            return true;
        }

        private void takeNumber() {
            while (tokenEnd < length && isFigure(bytes[tokenEnd])) {
                tokenEnd++;
            }
            token = tokenEnd - tokenStart <= 2 ? NUMBER : WRONG;
        }

        private void takeQuoted() {
            int at = tokenStart + 1;
            while (at < length && SIGN_BYTES.indexOf((char) bytes[at]) >= 0) {
                at++;
            }
            int howMany = at - tokenStart - 1;
            boolean closed = at < length && bytes[at] == '"';
            token = closed && howMany >= 1 && howMany <= MOST_SIGNS ? QUOTED : WRONG;
            tokenEnd = closed ? at + 1 : at;
        }
    }
}
