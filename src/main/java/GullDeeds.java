/**
 * A fishing row in pawn to its gulls: houses by what they owe a day, gulls by kind and patience,
 * catches by days. The document's promises tell what each call answers; refusals are answers, too,
 * and a refused call changes nothing.
 *
 * All rows and states are made with the object and used again, so that no call makes anything.
 */
public final class GullDeeds {
    public static final int NONE = -1, UNKNOWN = -1000000001, OUTSIDE = -1000000002, NOT = -1000000003, FULL = -1000000004;

    private static final int MOST_LETTERS = 240;
    private static final int MOST_CATCHES = 12;
    private static final int MOST_HOUSES = 7;
    private static final int MOST_CRIES = 20;
    private static final int MOST_UNDONE = 30;
    private static final int MOST_HEARD = 6;
    private static final int MOST_ENTRIES = 20;
    private static final int MOST_IMAGES = 2;
    private static final int MOST_COUNTED = 9999;
    private static final int MOST_TRIED_DAYS = 60;
    private static final int MOST_DEED_DAYS = 30;
    private static final int MOST_LENT = 999;
    private static final int LAST_DAY = 9000;
    private static final int BLACK_BACK = 1;
    private static final int WHITE = 2;
    private static final int BREAD_EATER = 3;
    private static final int GOOD_DAYS_TO_REDEEM = 7;
    private static final int WEIGHT_TO_PUT_OUT = 10;
    private static final int NO_GALE = 99;
    private static final int BILLION = 1000000000;

    private final Text text;
    private Row spare;
    private final State now;
    private final State trial;
    private final Past past;
    private final Image[] images;
    private final Ear ear;
    private final Book book;
    private int seedNow;

    public GullDeeds() {
        Row none = new Row();
        spare = new Row();
        text = new Text(spare);
        now = new State(none);
        trial = new State(none);
        past = new Past(none);
        images = new Image[MOST_IMAGES];
        for (int i = 0; i < MOST_IMAGES; i++) {
            images[i] = new Image(none);
        }
        ear = new Ear();
        book = new Book();
        seedNow = 0;
    }

    // ---- the row

    public int feed(int letter) {
        if (isOutside(letter, 0, 255)) {
            return OUTSIDE;
        }
        return text.append(letter) ? text.length : FULL;
    }

    public int row() {
        int fault = text.readInto(spare);
        if (fault > 0) {
            return -10 - fault;
        }
        Row told = spare;
        spare = now.row;
        now.begin(told);
        past.forget();
        for (int i = 0; i < MOST_IMAGES; i++) {
            images[i].kept = false;
        }
        ear.count = 0;
        book.count = 0;
        return told.houses;
    }

    public int fault() {
        return text.faultAt;
    }

    public int told(int what) {
        switch (what) {
            case 0: return now.row.catches;
            case 1: return now.row.houses;
            case 2: return now.row.gulls;
            case 3: return text.length;
            case 4: return now.days;
            case 5: return now.stock;
            case 6: return now.putOut;
            case 7: return now.heldSet();
            case 8: return now.freeSet();
            case 9: return now.emptySet;
            case 10: return now.debtOfHeld();
            case 11: return now.astray();
            case 12: return now.gap();
            case 13: return now.worst();
            case 14: return now.cries;
            case 15: return ear.count;
            case 16: return book.count;
            case 17: return past.count;
            default: return OUTSIDE;
        }
    }

    public int house(int h, int what) {
        if (!now.row.isHouse(h)) {
            return UNKNOWN;
        }
        switch (what) {
            case 0: return now.row.dailyDue[h];
            case 1: return now.debt[h];
            case 2: return now.standing(h);
            case 3: return now.gullAt[h];
            case 4: return now.goodDays[h];
            case 5: return now.weight[h];
            default: return OUTSIDE;
        }
    }

    public int gull(int g, int what) {
        if (!now.row.isGull(g)) {
            return UNKNOWN;
        }
        switch (what) {
            case 0: return now.row.kind[g];
            case 1: return now.row.patience[g];
            case 2: return now.houseOf(g);
            default: return OUTSIDE;
        }
    }

    public int ahead(int n) {
        if (isOutside(n, 0, MOST_TRIED_DAYS)) {
            return OUTSIDE;
        }
        return now.row.isTold() ? now.row.catchOf(now.days + n) : NOT;
    }

    public int logged(int i, int what) {
        if (isOutside(what, 0, 2)) {
            return OUTSIDE;
        }
        return now.cryAt(i, what);
    }

    // ---- deeds

    public int day(int n) {
        int refusal = refusalOfDays(n);
        if (refusal != 0) {
            return refusal;
        }
        for (int i = 0; i < n; i++) {
            past.remember(now);
            now.passDay();
        }
        return now.stock;
    }

    public int pay(int h, int n) {
        if (!now.row.isHouse(h)) {
            return UNKNOWN;
        }
        if (isOutside(n, 1, 99)) {
            return OUTSIDE;
        }
        if (!now.canPay(h, n)) {
            return NOT;
        }
        past.remember(now);
        now.payByHand(h, n);
        return now.debt[h];
    }

    public int bread(int h, int n) {
        if (!now.row.isHouse(h)) {
            return UNKNOWN;
        }
        if (isOutside(n, 1, 9)) {
            return OUTSIDE;
        }
        if (!now.eatsBread(h) || now.debt[h] < n) {
            return NOT;
        }
        past.remember(now);
        now.payByBread(h, n);
        return now.debt[h];
    }

    public int stone(int h) {
        if (!now.row.isHouse(h)) {
            return UNKNOWN;
        }
        if (now.isEmpty(h)) {
            return NOT;
        }
        past.remember(now);
        now.evict(h);
        return now.putOut;
    }

    public int lend(int n) {
        if (isOutside(n, 1, MOST_LENT)) {
            return OUTSIDE;
        }
        if (!now.row.isTold()) {
            return NOT;
        }
        past.remember(now);
        now.addHeads(n);
        return now.stock;
    }

    public int swap(int h, int k) {
        if (!now.row.isHouse(h) || !now.row.isHouse(k) || h == k) {
            return UNKNOWN;
        }
        if (!now.canExchange(h, k)) {
            return NOT;
        }
        past.remember(now);
        now.exchange(h, k);
        return now.gullAt[h];
    }

    public int drift(int n) {
        int refusal = refusalOfDays(n);
        if (refusal != 0) {
            return refusal;
        }
        for (int i = 0; i < n; i++) {
            past.remember(now);
            drawDeed();
            now.passDay();
        }
        return now.stock;
    }

    public int undo(int n) {
        if (isOutside(n, 1, MOST_UNDONE)) {
            return OUTSIDE;
        }
        return past.bringBack(n, now) ? now.days : NOT;
    }

    // ---- tried

    public int owes(int h, int n) {
        if (!now.row.isHouse(h)) {
            return UNKNOWN;
        }
        if (isOutside(n, 0, MOST_TRIED_DAYS)) {
            return OUTSIDE;
        }
        tryDays(n);
        return trial.debt[h];
    }

    public int firstOut(int what) {
        if (isOutside(what, 0, 1)) {
            return OUTSIDE;
        }
        trial.copyFrom(now);
        for (int n = 1; n <= MOST_TRIED_DAYS; n++) {
            int firstTurn = trial.firstTurn();
            trial.passDay();
            if (trial.putOut > now.putOut) {
                return what == 1 ? n : firstInTurn(newlyEmpty(), firstTurn);
            }
        }
        return NONE;
    }

    public int outBy(int n) {
        if (isOutside(n, 0, MOST_TRIED_DAYS)) {
            return OUTSIDE;
        }
        tryDays(n);
        return newlyEmpty();
    }

    public int redeemedBy(int n) {
        if (isOutside(n, 0, MOST_TRIED_DAYS)) {
            return OUTSIDE;
        }
        tryDays(n);
        return now.gullHeldSet() & ~trial.gullHeldSet();
    }

    public int loan(int n) {
        if (isOutside(n, 0, MOST_TRIED_DAYS)) {
            return OUTSIDE;
        }
        if (!loanDoes(MOST_LENT, n)) {
            return NONE;
        }
        // Halving is right: as long as nobody is put out, more heads never leave a house with more debt,
        // fewer good days or less stock, so a loan above one that does, does too.
        int low = 0;
        int high = MOST_LENT;
        for (int step = 0; step < 10 && low < high; step++) {
            int middle = (low + high) / 2;
            if (loanDoes(middle, n)) {
                high = middle;
            } else {
                low = middle + 1;
            }
        }
        return low;
    }

    public int clear(int what) {
        if (isOutside(what, 0, 1)) {
            return OUTSIDE;
        }
        int best = 0;
        int sets = 1 << now.row.houses;
        for (int set = 1; set < sets; set++) {
            if (Integer.bitCount(set) > Integer.bitCount(best) && now.canClear(set)) {
                best = set;
            }
        }
        return what == 0 ? Integer.bitCount(best) : best;
    }

    public int bestSwap(int n, int what) {
        if (isOutside(n, 0, MOST_TRIED_DAYS) || isOutside(what, 0, 1)) {
            return OUTSIDE;
        }
        tryDays(n);
        int fewest = trial.putOut - now.putOut;
        int best = NONE;
        for (int h = 0; h < now.row.houses; h++) {
            for (int k = h + 1; k < now.row.houses; k++) {
                int out = now.canExchange(h, k) ? putOutBySwap(h, k, n) : MOST_HOUSES;
                if (out < fewest) {
                    fewest = out;
                    best = 100 * h + k;
                }
            }
        }
        return best == NONE || what == 0 ? best : fewest;
    }

    public int home(int g) {
        if (!now.row.isGull(g)) {
            return UNKNOWN;
        }
        int at = g;
        for (int steps = 1; steps <= MOST_HOUSES; steps++) {
            at = now.houseOf(at);
            if (at == g) {
                return steps;
            }
            if (!now.row.isGull(at)) {
                return NONE;
            }
        }
        return NONE;
    }

    public int mostBread(int h) {
        if (!now.row.isHouse(h)) {
            return UNKNOWN;
        }
        if (!now.eatsBread(h)) {
            return NONE;
        }
        return Math.min(now.debt[h], WEIGHT_TO_PUT_OUT - 1 - now.weight[h]);
    }

    public int sure(int n, int q) {
        if (isOutside(n, 0, MOST_TRIED_DAYS) || isOutside(q, 0, 100)) {
            return OUTSIDE;
        }
        long odds = BILLION;
        for (int i = 0; i < n; i++) {
            odds = odds * q / 100;
        }
        return (int) odds;
    }

    // ---- what was heard

    public int hear(int g, int h, boolean was) {
        if (!now.row.isGull(g) || !now.row.isHouse(h)) {
            return UNKNOWN;
        }
        return ear.take(g, h, was) ? ear.count : FULL;
    }

    public int gales(int what) {
        if (isOutside(what, 0, 1)) {
            return OUTSIDE;
        }
        ear.findGales(now);
        if (what == 0) {
            return ear.fitting;
        }
        return ear.fitting == 0 ? NONE : ear.gale[0];
    }

    public int listen() {
        ear.findGales(now);
        int best = NONE;
        int least = ear.fitting;
        for (int h = 0; h < now.row.houses; h++) {
            int greatest = ear.greatestPart(now, h);
            if (greatest < least) {
                least = greatest;
                best = h;
            }
        }
        return best;
    }

    public int write(int h, int debt) {
        if (!now.row.isHouse(h)) {
            return UNKNOWN;
        }
        if (isOutside(debt, 0, MOST_COUNTED)) {
            return OUTSIDE;
        }
        return book.enter(h, debt) ? book.count : FULL;
    }

    public int judge() {
        return book.firstWrong(now);
    }

    public int tear() {
        int had = ear.count + book.count;
        ear.count = 0;
        book.count = 0;
        return had;
    }

    // ---- images

    public int seed(int v) {
        if (v < 0) {
            return OUTSIDE;
        }
        int was = seedNow;
        seedNow = v;
        return was;
    }

    public int keep(int i) {
        if (isOutside(i, 0, MOST_IMAGES - 1)) {
            return UNKNOWN;
        }
        Image image = images[i];
        image.state.copyFrom(now);
        image.seedThen = seedNow;
        image.kept = true;
        past.forget();
        return 1;
    }

    public int goBack(int i) {
        if (isOutside(i, 0, MOST_IMAGES - 1)) {
            return UNKNOWN;
        }
        Image image = images[i];
        if (!image.kept) {
            return NOT;
        }
        now.copyFrom(image.state);
        seedNow = image.seedThen;
        past.forget();
        return 1;
    }

    // ---- helpers of the face

    private static boolean isOutside(int number, int least, int most) {
        return number < least || number > most;
    }

    private static boolean isIn(int set, int h) {
        return (set >> h & 1) == 1;
    }

    /** Why days cannot pass now; 0: they can. */
    private int refusalOfDays(int n) {
        if (isOutside(n, 1, MOST_DEED_DAYS)) {
            return OUTSIDE;
        }
        if (!now.row.isTold()) {
            return NOT;
        }
        return now.days > LAST_DAY ? FULL : 0;
    }

    private int draw(int n) {
        seedNow = (int) ((seedNow * 1103515245L + 12345L) & 0x7fffffffL);
        return n > 0 ? seedNow / 65536 % n : 0;
    }

    /** What comes ahead of a day by draws. Both draws of a deed are made, whether it can be done or not. */
    private void drawDeed() {
        int houses = now.row.houses;
        int deed = draw(6);
        if (deed == 0) {
            now.addHeads(draw(20));
        } else if (deed == 1 && houses >= 2) {
            int h = draw(houses);
            int k = draw(houses);
            if (h != k && now.canExchange(h, k)) {
                now.exchange(h, k);
            }
        } else if (deed == 2 && houses >= 1) {
            int h = draw(houses);
            int heads = draw(10);
            if (now.canPay(h, heads)) {
                now.payByHand(h, heads);
            }
        }
    }

    private void tryDays(int n) {
        trial.copyFrom(now);
        trial.passDays(n);
    }

    private boolean loanDoes(int heads, int n) {
        trial.copyFrom(now);
        trial.addHeads(heads);
        for (int i = 0; i < n && trial.putOut == now.putOut; i++) {
            trial.passDay();
        }
        return trial.putOut == now.putOut;
    }

    private int putOutBySwap(int h, int k, int n) {
        trial.copyFrom(now);
        trial.exchange(h, k);
        trial.passDays(n);
        return trial.putOut - now.putOut;
    }

    /** The houses that the trial has put out: an empty one stays so, so they are those empty since. */
    private int newlyEmpty() {
        return trial.emptySet & ~now.emptySet;
    }

    private int firstInTurn(int set, int firstTurn) {
        int houses = now.row.houses;
        for (int i = 0; i < houses; i++) {
            int h = (firstTurn + i) % houses;
            if (isIn(set, h)) {
                return h;
            }
        }
        return NONE;
    }

    /** What the text tells once and for all: catches, houses, gulls. Without catches there is no row. */
    private static final class Row {
        int catches;
        int houses;
        int gulls;
        final int[] catchOn = new int[MOST_CATCHES];
        final int[] dailyDue = new int[MOST_HOUSES];
        final int[] firstDebt = new int[MOST_HOUSES];
        final int[] kind = new int[MOST_HOUSES];
        final int[] patience = new int[MOST_HOUSES];

        void wipe() {
            catches = 0;
            houses = 0;
            gulls = 0;
        }

        boolean isTold() {
            return catches > 0;
        }

        boolean isHouse(int h) {
            return h >= 0 && h < houses;
        }

        boolean isGull(int g) {
            return g >= 0 && g < gulls;
        }

        int catchOf(int dayNumber) {
            return catches > 0 && dayNumber >= 0 ? catchOn[dayNumber % catches] : 0;
        }
    }

    /** The text, letter by letter, and how it is read. A fault stops the reading. */
    private static final class Text {
        private final char[] letters = new char[MOST_LETTERS];
        int length = 0;
        int faultAt = NONE;
        private int faultNumber = 0;
        private int at = 0;
        private Row into;

        Text(Row first) {
            into = first;
        }

        boolean append(int letter) {
            if (length >= MOST_LETTERS) {
                return false;
            }
            letters[length] = (char) letter;
            length++;
            return true;
        }

        /** Reads and empties the text: the number of its fault, 0 without one. */
        int readInto(Row told) {
            told.wipe();
            into = told;
            at = 0;
            faultNumber = 0;
            faultAt = NONE;
            skipBlanks();
            for (int clauses = 0; clauses < MOST_LETTERS && at < length && faultNumber == 0; clauses++) {
                readClause();
                skipBlanks();
            }
            length = 0;
            return faultNumber;
        }

        private void readClause() {
            int word = letterHere();
            boolean first = !into.isTold();
            if (word == 'q') {
                readCatches(first);
            } else if (word == 'h' && !first) {
                readHouse();
            } else if (word == 'g' && !first) {
                readGull();
            } else {
                fail(1, at);
            }
        }

        private void readCatches(boolean first) {
            if (!first) {
                fail(3, at);
                return;
            }
            at++;
            boolean more = true;
            for (int i = 0; i < MOST_CATCHES && more; i++) {
                int heads = readNumber(0, 99);
                if (faultNumber != 0) {
                    return;
                }
                into.catchOn[i] = heads;
                into.catches = i + 1;
                more = i + 1 < MOST_CATCHES && isNext(',');
            }
            readEnd();
        }

        private void readHouse() {
            int h = into.houses;
            if (h >= MOST_HOUSES) {
                fail(3, at);
                return;
            }
            at++;
            into.dailyDue[h] = readNumber(1, 9);
            into.firstDebt[h] = readNumber(0, 99);
            into.houses = h + 1;
            readEnd();
        }

        private void readGull() {
            int g = into.gulls;
            if (g >= into.houses || g >= MOST_HOUSES) {
                fail(3, at);
                return;
            }
            at++;
            into.kind[g] = readNumber(0, 3);
            into.patience[g] = readNumber(1, 99);
            into.gulls = g + 1;
            readEnd();
        }

        private int readNumber(int least, int most) {
            skipBlanks();
            int start = at;
            int value = 0;
            while (at < length && isFigure(letters[at])) {
                // Behind three figures the number is at fault anyway, and must not run over.
                value = at - start < 3 ? 10 * value + letters[at] - '0' : value;
                at++;
            }
            if (at == start) {
                fail(1, start);
            } else if (at - start > 3 || isOutside(value, least, most)) {
                fail(2, start);
            }
            return value;
        }

        private void readEnd() {
            if (!isNext(';')) {
                fail(1, at);
            }
        }

        /** Goes past the word, if it comes next. */
        private boolean isNext(int word) {
            skipBlanks();
            if (letterHere() != word) {
                return false;
            }
            at++;
            return true;
        }

        private void skipBlanks() {
            while (at < length && letters[at] == ' ') {
                at++;
            }
        }

        private int letterHere() {
            return at < length ? letters[at] : NONE;
        }

        private static boolean isFigure(int letter) {
            return letter >= '0' && letter <= '9';
        }

        /** The first fault alone counts: what is read behind it is not told. */
        private void fail(int number, int place) {
            if (faultNumber == 0) {
                faultNumber = number;
                faultAt = place;
            }
        }
    }

    /** All that deeds change, and that undoing and images bring back. */
    private static final class State {
        Row row;
        int days;
        int stock;
        int putOut;
        int cries;
        private int nextCry;
        int emptySet;
        final int[] debt = new int[MOST_HOUSES];
        final int[] gullAt = new int[MOST_HOUSES];
        final int[] goodDays = new int[MOST_HOUSES];
        final int[] weight = new int[MOST_HOUSES];
        private final int[] log = new int[3 * MOST_CRIES];

        State(Row told) {
            begin(told);
        }

        void begin(Row told) {
            row = told;
            days = 0;
            stock = 0;
            putOut = 0;
            cries = 0;
            nextCry = 0;
            emptySet = 0;
            for (int h = 0; h < MOST_HOUSES; h++) {
                debt[h] = h < told.houses ? told.firstDebt[h] : 0;
                gullAt[h] = h < told.gulls ? h : NONE;
                goodDays[h] = 0;
                weight[h] = 0;
            }
        }

        void copyFrom(State other) {
            row = other.row;
            days = other.days;
            stock = other.stock;
            putOut = other.putOut;
            cries = other.cries;
            nextCry = other.nextCry;
            emptySet = other.emptySet;
            System.arraycopy(other.debt, 0, debt, 0, MOST_HOUSES);
            System.arraycopy(other.gullAt, 0, gullAt, 0, MOST_HOUSES);
            System.arraycopy(other.goodDays, 0, goodDays, 0, MOST_HOUSES);
            System.arraycopy(other.weight, 0, weight, 0, MOST_HOUSES);
            System.arraycopy(other.log, 0, log, 0, 3 * MOST_CRIES);
        }

        // -- deeds

        void passDays(int n) {
            for (int i = 0; i < n; i++) {
                passDay();
            }
        }

        void passDay() {
            addHeads(row.catchOf(days));
            int houses = row.houses;
            int first = firstTurn();
            for (int i = 0; i < houses; i++) {
                takeTurn((first + i) % houses);
            }
            days++;
        }

        int firstTurn() {
            return row.houses > 0 ? days % row.houses : 0;
        }

        void addHeads(int heads) {
            stock = Math.min(MOST_COUNTED, stock + heads);
        }

        private void takeTurn(int h) {
            if (!isHeld(h)) {
                return;
            }
            int g = gullAt[h];
            int paid = Math.min(row.dailyDue[h], stock);
            int lack = row.dailyDue[h] - paid;
            stock -= paid;
            if (lack > 0) {
                int added = row.kind[g] == BLACK_BACK ? 2 * lack : lack;
                debt[h] = Math.min(MOST_COUNTED, debt[h] + added);
                cryOut(h, lack);
            } else if (debt[h] > 0 && stock > 0) {
                stock--;
                debt[h]--;
            }
            countGoodDay(h);
            if (debt[h] > row.patience[g] && row.kind[g] != WHITE) {
                evict(h);
            }
        }

        private void countGoodDay(int h) {
            goodDays[h] = debt[h] == 0 ? goodDays[h] + 1 : 0;
            if (goodDays[h] >= GOOD_DAYS_TO_REDEEM) {
                gullAt[h] = NONE;
            }
        }

        private void cryOut(int h, int lack) {
            log[3 * nextCry] = days;
            log[3 * nextCry + 1] = h;
            log[3 * nextCry + 2] = lack;
            nextCry = (nextCry + 1) % MOST_CRIES;
            cries = Math.min(MOST_CRIES, cries + 1);
        }

        boolean canPay(int h, int heads) {
            return isHeld(h) && stock >= heads && debt[h] >= heads;
        }

        void payByHand(int h, int heads) {
            stock -= heads;
            debt[h] -= heads;
        }

        boolean eatsBread(int h) {
            return isHeld(h) && row.kind[gullAt[h]] == BREAD_EATER;
        }

        void payByBread(int h, int n) {
            debt[h] -= n;
            weight[h] += n;
            if (weight[h] >= WEIGHT_TO_PUT_OUT) {
                evict(h);
            }
        }

        void evict(int h) {
            emptySet |= 1 << h;
            putOut++;
        }

        /** Of two houses that are not the same. */
        boolean canExchange(int h, int k) {
            return gullAt[h] != NONE && gullAt[k] != NONE;
        }

        void exchange(int h, int k) {
            int gullOfFirst = gullAt[h];
            gullAt[h] = gullAt[k];
            gullAt[k] = gullOfFirst;
            goodDays[h] = 0;
            goodDays[k] = 0;
        }

        // -- what is so

        boolean isEmpty(int h) {
            return isIn(emptySet, h);
        }

        boolean isHeld(int h) {
            return !isEmpty(h) && gullAt[h] != NONE;
        }

        /** 0 held, 1 free, 2 empty. */
        int standing(int h) {
            if (isEmpty(h)) {
                return 2;
            }
            return gullAt[h] == NONE ? 1 : 0;
        }

        int heldSet() {
            return gullHeldSet() & ~emptySet;
        }

        int freeSet() {
            return ((1 << row.houses) - 1) & ~gullHeldSet() & ~emptySet;
        }

        /** The houses that gulls hold, empty ones, too. */
        int gullHeldSet() {
            int set = 0;
            for (int h = 0; h < row.houses; h++) {
                if (gullAt[h] != NONE) {
                    set |= 1 << h;
                }
            }
            return set;
        }

        int houseOf(int g) {
            for (int h = 0; h < row.houses; h++) {
                if (gullAt[h] == g) {
                    return h;
                }
            }
            return NONE;
        }

        int debtOfHeld() {
            int sum = 0;
            for (int h = 0; h < row.houses; h++) {
                sum += isHeld(h) ? debt[h] : 0;
            }
            return sum;
        }

        /** Whether all of the set are held and have debt, and the stock does for it. */
        boolean canClear(int set) {
            int sum = 0;
            for (int h = 0; h < row.houses; h++) {
                if (isIn(set, h)) {
                    if (!isHeld(h) || debt[h] == 0) {
                        return false;
                    }
                    sum += debt[h];
                }
            }
            return sum <= stock;
        }

        int astray() {
            int count = 0;
            for (int h = 0; h < row.houses; h++) {
                if (gullAt[h] != NONE && gullAt[h] != h) {
                    count++;
                }
            }
            return count;
        }

        int worst() {
            int worst = NONE;
            for (int h = 0; h < row.houses; h++) {
                if (isHeld(h) && (worst == NONE || debt[h] > debt[worst])) {
                    worst = h;
                }
            }
            return worst;
        }

        int gap() {
            int worst = worst();
            if (worst == NONE) {
                return 0;
            }
            int least = debt[worst];
            for (int h = 0; h < row.houses; h++) {
                least = isHeld(h) ? Math.min(least, debt[h]) : least;
            }
            return debt[worst] - least;
        }

        int cryAt(int i, int what) {
            if (i < 0 || i >= cries) {
                return NONE;
            }
            int place = (nextCry + 2 * MOST_CRIES - 1 - i) % MOST_CRIES;
            return log[3 * place + what];
        }
    }

    /** The states ahead of the latest deeds, in a ring. */
    private static final class Past {
        private final State[] states = new State[MOST_UNDONE];
        private int next = 0;
        int count = 0;

        Past(Row none) {
            for (int i = 0; i < MOST_UNDONE; i++) {
                states[i] = new State(none);
            }
        }

        void forget() {
            count = 0;
        }

        void remember(State state) {
            states[next].copyFrom(state);
            next = (next + 1) % MOST_UNDONE;
            count = Math.min(MOST_UNDONE, count + 1);
        }

        boolean bringBack(int n, State state) {
            if (n < 1 || n > count) {
                return false;
            }
            next = (next + MOST_UNDONE - n) % MOST_UNDONE;
            count -= n;
            state.copyFrom(states[next]);
            return true;
        }
    }

    /** A state to go on from, with the seed of its time. */
    private static final class Image {
        final State state;
        int seedThen = 0;
        boolean kept = false;

        Image(Row none) {
            state = new State(none);
        }
    }

    /** What was heard of a gale that was not seen, and the gales that fit it. */
    private static final class Ear {
        private final int[] heardGull = new int[MOST_HEARD];
        private final int[] heardHouse = new int[MOST_HEARD];
        private final boolean[] wasThere = new boolean[MOST_HEARD];
        int count = 0;
        final int[] gale = new int[MOST_HOUSES * (MOST_HOUSES - 1) / 2 + 1];
        int fitting = 0;
        private final int[] partOfGull = new int[MOST_HOUSES + 1];

        boolean take(int g, int h, boolean was) {
            if (count >= MOST_HEARD) {
                return false;
            }
            heardGull[count] = g;
            heardHouse[count] = h;
            wasThere[count] = was;
            count++;
            return true;
        }

        /** Pairs rising, none last. */
        void findGales(State state) {
            fitting = 0;
            for (int g = 0; g < state.row.gulls; g++) {
                for (int other = g + 1; other < state.row.gulls; other++) {
                    if (state.houseOf(g) != NONE && state.houseOf(other) != NONE) {
                        addIfFitting(state, 10 * g + other);
                    }
                }
            }
            addIfFitting(state, NO_GALE);
        }

        private void addIfFitting(State state, int pair) {
            for (int i = 0; i < count; i++) {
                boolean there = gullThen(state, pair, heardHouse[i]) == heardGull[i];
                if (there != wasThere[i]) {
                    return;
                }
            }
            if (fitting < gale.length) {
                gale[fitting] = pair;
                fitting++;
            }
        }

        private static int gullThen(State state, int pair, int h) {
            int g = state.gullAt[h];
            if (pair == NO_GALE) {
                return g;
            }
            if (g == pair / 10) {
                return pair % 10;
            }
            return g == pair % 10 ? pair / 10 : g;
        }

        /** How many of the fitting gales are alike at most, by the gull that is at the house then. */
        int greatestPart(State state, int h) {
            for (int i = 0; i <= MOST_HOUSES; i++) {
                partOfGull[i] = 0;
            }
            int greatest = 0;
            for (int i = 0; i < fitting; i++) {
                // Part 0 is for none at the house.
                int part = gullThen(state, gale[i], h) + 1;
                partOfGull[part]++;
                greatest = Math.max(greatest, partOfGull[part]);
            }
            return greatest;
        }
    }

    /** Entries that tell debts, to be judged by what is so. */
    private static final class Book {
        private final int[] houseOfEntry = new int[MOST_ENTRIES];
        private final int[] debtOfEntry = new int[MOST_ENTRIES];
        int count = 0;

        boolean enter(int h, int debt) {
            if (count >= MOST_ENTRIES) {
                return false;
            }
            houseOfEntry[count] = h;
            debtOfEntry[count] = debt;
            count++;
            return true;
        }

        int firstWrong(State state) {
            for (int i = 0; i < count; i++) {
                if (state.debt[houseOfEntry[i]] != debtOfEntry[i]) {
                    return i;
                }
            }
            return NONE;
        }
    }
}
