import java.util.Arrays;

/** A ring in the sand: where it may lie, who looks for it, where to look next. */
public final class RingInSand {
    public static final int NONE = -1, BAD = -2, STATE = -3, FULL = -4;
    public static final long NO = -4611686018427387904L;

    private static final int NOTHING = -11;
    private static final int OUTSIDE = -12;
    private static final int UNLIKE = -13;
    private static final int BELOW_ZERO = -14;

    private static final int ROWS = 6;
    private static final int COLUMNS = 8;
    private static final int CELLS = 48;
    private static final int MOST_ODDS = 999999;
    private static final int MOST_TREADS = 99;
    private static final int MOST_WEIGHT = 9999;
    private static final int HOURS = 24;
    private static final int HOUR_AT_FIRST = 12;
    private static final int HOUR_OF_MOST_SUN = 13;
    private static final int MINUTES_OF_AN_HOUR = 60;
    private static final int MOST_DEEP = 99;
    private static final int MOST_SHINE = 100;

    private static final int KINDS = 6;
    private static final int MOST_NUMBER = 9;
    private static final int MOST_LOOKERS = 6;
    private static final int MOST_PLANNED = 20;
    private static final int MOST_SEEDS = 20;
    private static final int SHEETS = 4;
    private static final int SORTS = 3;
    private static final int MOST_ITEMS = 40;

    private static final int MOST_TEXTS = 6;
    private static final int MOST_BYTES = 160;
    private static final int MOST_DIGITS = 4;
    private static final int MOST_OPEN = 5;
    private static final int FAULT_BASE = -100;
    private static final String RULE_AT_FIRST =
            "deep trod * 1 + y ; sea 4 < y and 17 < hour ; shine sun - depth ;";

    private final Beach now = new Beach();
    private final Beach thought = new Beach();
    private final Beach kept = new Beach();
    private boolean isKept;
    private final Eyes[] party = new Eyes[MOST_LOOKERS];
    private int partySize;
    private final Tape tape = new Tape();
    private final Rules rules = new Rules();
    private final Steps steps = new Steps();
    private final Sheet[] sheets = new Sheet[SHEETS];
    private int bestLooker = NONE;
    private int bestCell = NONE;
    private int bestRate;
    private int judgedGains;

    public RingInSand() {
        for (int i = 0; i < SHEETS; i++) {
            sheets[i] = new Sheet();
        }
        for (int i = 0; i < RULE_AT_FIRST.length(); i++) {
            tape.append(RULE_AT_FIRST.charAt(i));
        }
        if (tape.readText()) {
            rules.addFrom(tape);
        }
        tape.clear();
    }

    // ---- the beach, lookers

    public int set(int what, int of, int v) {
        switch (what) {
            case 0: return changeOdds(of, v);
            case 1: return changeTreads(of, v);
            case 2: return changeBag(v);
            case 3: return changeHour(v);
            case 4: return changeMinutes(v);
            default: return BAD;
        }
    }

    public int told(int cell, int what) {
        if (!isCell(cell) || !isWithin(what, 0, 4)) {
            return BAD;
        }
        rules.survey(now, cell);
        switch (what) {
            case 0: return now.oddsAt(cell);
            case 1: return now.treadsAt(cell);
            case 2: return rules.deep;
            case 3: return rules.wet ? 1 : 0;
            default: return rules.shine;
        }
    }

    public int looker(int kind, int number) {
        if (!isWithin(kind, 0, KINDS - 1) || !isWithin(number, 0, MOST_NUMBER)) {
            return BAD;
        }
        if (partySize >= MOST_LOOKERS) {
            return FULL;
        }
        party[partySize] = ofKind(kind, number);
        partySize++;
        return partySize - 1;
    }

    public int asks(int looker, int cell, int what) {
        Eyes who = lookerAt(looker);
        if (who == null || !isCell(cell) || !isWithin(what, 0, 4)) {
            return BAD;
        }
        rules.survey(now, cell);
        switch (what) {
            case 0: return goodHere(who);
            case 1: return takesOf(who);
            case 2: return stampsOf(who);
            case 3: return gainOf(now.oddsAt(cell), goodHere(who));
            default: return rateOf(gainOf(now.oddsAt(cell), goodHere(who)), takesOf(who));
        }
    }

    // ---- texts

    public int feed(int letter) {
        if (!isWithin(letter, 0, 255)) {
            return BAD;
        }
        return tape.append(letter) ? tape.size : FULL;
    }

    public int text() {
        if (rules.isFull()) {
            return FULL;
        }
        boolean isText = tape.readText();
        tape.clear();
        if (!isText) {
            return FAULT_BASE - tape.fault;
        }
        rules.addFrom(tape);
        return rules.size - 1;
    }

    public int force(int text) {
        if (!rules.hasText(text)) {
            return BAD;
        }
        int was = now.rule;
        now.rule = text;
        return was;
    }

    // ---- looking

    public int look(int looker, int cell) {
        Eyes who = lookerAt(looker);
        if (who == null || !isCell(cell)) {
            return BAD;
        }
        return gainByLook(now, who, cell) == STATE ? STATE : now.oddsAt(cell);
    }

    public int next(int what) {
        if (!isWithin(what, 0, 2)) {
            return BAD;
        }
        if (!choose(now)) {
            return NONE;
        }
        switch (what) {
            case 0: return bestLooker;
            case 1: return bestCell;
            default: return bestRate;
        }
    }

    public int plan(int n, int what) {
        if (!isWithin(n, 0, MOST_PLANNED) || !isWithin(what, 0, 2)) {
            return BAD;
        }
        makePlan(n);
        switch (what) {
            case 0: return steps.allGains;
            case 1: return steps.size;
            default: return steps.allMinutes;
        }
    }

    public int planned(int i) {
        if (!isWithin(i, 0, MOST_PLANNED - 1)) {
            return BAD;
        }
        makePlan(MOST_PLANNED);
        return steps.cellAt(i);
    }

    public int search() {
        if (!choose(now)) {
            return NONE;
        }
        int chosen = bestCell;
        Eyes who = lookerAt(bestLooker);
        if (who != null) {
            gainByLook(now, who, chosen);
        }
        return chosen;
    }

    public int giveUp(int price) {
        if (!isWithin(price, 0, MOST_ODDS)) {
            return BAD;
        }
        makePlan(MOST_PLANNED);
        return steps.sizeAheadOf(price);
    }

    // ---- where it is

    public long likely(int cell, int part) {
        if (!isCell(cell)) {
            return NO;
        }
        return partOfQuotient(now.oddsAt(cell), now.allOdds(), part);
    }

    public long here(int part) {
        return partOfQuotient(now.oddsOnCells(), now.allOdds(), part);
    }

    public int most(int what) {
        switch (what) {
            case 0: return now.cellOfMostOdds();
            case 1: return now.allOdds();
            default: return BAD;
        }
    }

    public int under(int y) {
        if (!isWithin(y, 0, ROWS - 1)) {
            return BAD;
        }
        int bits = 0;
        for (int x = 0; x < COLUMNS; x++) {
            if (isWetAt(y * COLUMNS + x, now.hour)) {
                bits |= 1 << x;
            }
        }
        return bits;
    }

    public int drowned(int what) {
        switch (what) {
            case 0: return oddsUnderWater(now.hour);
            case 1: return hourOfMostDrowned();
            default: return BAD;
        }
    }

    public int seen(int sheet, int w) {
        Sheet pictures = sheetAt(sheet);
        if (pictures == null || !isWithin(w, 0, MOST_WEIGHT)) {
            return BAD;
        }
        if (pictures.isMissing()) {
            return NOTHING;
        }
        if (!tellsCellsAlone(pictures)) {
            return BAD;
        }
        for (int i = 0; i < pictures.size; i++) {
            addPicture(pictures.itemAt(i), w);
        }
        return pictures.size;
    }

    public int crowd(int cell, int n, int treads) {
        if (!isCell(cell) || !isWithin(n, 1, COLUMNS) || !isWithin(treads, 1, MOST_TREADS)) {
            return BAD;
        }
        int there = Math.min(n, COLUMNS - cell % COLUMNS);
        for (int i = 0; i < there; i++) {
            now.addTreads(cell + i, treads);
        }
        return there;
    }

    public int judge(int sheet) {
        Sheet rows = sheetAt(sheet);
        if (rows == null) {
            return BAD;
        }
        if (rows.isMissing()) {
            return NOTHING;
        }
        return rows.isOdd() ? BAD : firstWrongRow(rows);
    }

    public long found(int sheet, int part) {
        Sheet rows = sheetAt(sheet);
        if (rows == null || rows.isMissing() || rows.isOdd()) {
            return NO;
        }
        firstWrongRow(rows);
        return partOfQuotient(judgedGains, now.allOdds(), part);
    }

    public int drawn(int seed) {
        int all = now.allOdds();
        if (all <= 0) {
            return NONE;
        }
        int z = seed * 1103515245 + 12345;
        return now.cellBehind((z >>> 4) % all);
    }

    public int foundBy(int seed, int n) {
        if (!isWithin(n, 1, MOST_SEEDS)) {
            return BAD;
        }
        makePlan(MOST_PLANNED);
        int times = 0;
        for (int i = 0; i < n; i++) {
            if (steps.hasCell(drawn(seed + i))) {
                times++;
            }
        }
        return times;
    }

    public int image() {
        kept.become(now);
        isKept = true;
        return now.hour;
    }

    public int back() {
        if (!isKept) {
            return STATE;
        }
        now.become(kept);
        return now.hour;
    }

    public int count(int what) {
        switch (what) {
            case 0: return partySize;
            case 1: return now.bag;
            case 2: return now.hour;
            case 3: return now.minutes;
            case 4: return rules.size;
            case 5: return tape.size;
            case 6: return now.rule;
            case 7: return now.allTreads();
            default: return BAD;
        }
    }

    // ---- the host

    public int sheet(int sheet, int sort, int n) {
        Sheet row = sheetAt(sheet);
        if (row == null || !isWithin(sort, Sheet.MISSING, SORTS - 1)) {
            return BAD;
        }
        if (sort == Sheet.MISSING) {
            row.remove();
            return 1;
        }
        if (n > MOST_ITEMS) {
            return BAD;
        }
        if (n < 0) {
            return BELOW_ZERO;
        }
        row.lay(sort, n);
        return 1;
    }

    public int cell(int sheet, int i, int v) {
        Sheet row = sheetAt(sheet);
        if (row == null) {
            return BAD;
        }
        if (row.isMissing()) {
            return NOTHING;
        }
        if (!row.hasItem(i)) {
            return OUTSIDE;
        }
        row.put(i, v);
        return 1;
    }

    public int copy(int sheet, int i, int other, int j, int n) {
        Sheet from = sheetAt(sheet);
        Sheet to = sheetAt(other);
        if (from == null || to == null) {
            return BAD;
        }
        if (from.isMissing() || to.isMissing()) {
            return NOTHING;
        }
        if (from.sort != to.sort) {
            return UNLIKE;
        }
        if (!from.hasRange(i, n) || !to.hasRange(j, n)) {
            return OUTSIDE;
        }
        System.arraycopy(from.items, i, to.items, j, n);
        return n;
    }

    public int lookers(int sheet, int sort, int from, int n) {
        Sheet row = sheetAt(sheet);
        if (row == null || !isWithin(sort, 0, SORTS - 1) || !isWithin(n, 0, MOST_LOOKERS)) {
            return BAD;
        }
        // a missing SHEET is of no sort, so it may be taken for one of any
        if (!row.isMissing() && row.sort != sort) {
            return UNLIKE;
        }
        if (row.isMissing()) {
            return NOTHING;
        }
        int came = 0;
        for (int k = 0; k < n; k++) {
            // the range is asked for first: only behind it can the sum not wrap
            if (!row.hasItem(from) || !row.hasRange(from + 2 * k, 2)) {
                return OUTSIDE;
            }
            int i = from + 2 * k;
            if (looker(row.itemAt(i), row.itemAt(i + 1)) >= 0) {
                came++;
            }
        }
        return came;
    }

    public int taken(int looker, int k) {
        if (!isWithin(k, 0, KINDS - 1)) {
            return BAD;
        }
        Eyes who = lookerAt(looker);
        if (who == null) {
            return NOTHING;
        }
        return isOfKind(who, k) ? who.number : UNLIKE;
    }

    // ---- what several calls need

    private static boolean isWithin(int v, int least, int greatest) {
        return least <= v && v <= greatest;
    }

    private static int bounded(int v, int least, int greatest) {
        return Math.max(least, Math.min(greatest, v));
    }

    private static boolean isCell(int i) {
        return isWithin(i, 0, CELLS - 1);
    }

    private Eyes lookerAt(int i) {
        return isWithin(i, 0, partySize - 1) ? party[i] : null;
    }

    private Sheet sheetAt(int i) {
        return isWithin(i, 0, SHEETS - 1) ? sheets[i] : null;
    }

    private static long partOfQuotient(long above, long below, int part) {
        if (!isWithin(part, 0, 1) || below <= 0) {
            return NO;
        }
        long divisor = greatestDivisor(above, below);
        if (divisor <= 0) {
            return NO;
        }
        return (part == 0 ? above : below) / divisor;
    }

    private static long greatestDivisor(long a, long b) {
        long greater = a;
        long lesser = b;
        // far fewer steps are needed by numbers of 64 bits
        for (int i = 0; i < 200 && lesser != 0; i++) {
            long rest = greater % lesser;
            greater = lesser;
            lesser = rest;
        }
        return greater;
    }

    private int changeOdds(int of, int v) {
        if (!isCell(of) || !isWithin(v, 0, MOST_ODDS)) {
            return BAD;
        }
        int was = now.odds[of];
        now.odds[of] = v;
        return was;
    }

    private int changeTreads(int of, int v) {
        if (!isCell(of) || !isWithin(v, 0, MOST_TREADS)) {
            return BAD;
        }
        int was = now.treads[of];
        now.treads[of] = v;
        return was;
    }

    private int changeBag(int v) {
        if (!isWithin(v, 0, MOST_ODDS)) {
            return BAD;
        }
        int was = now.bag;
        now.bag = v;
        return was;
    }

    private int changeHour(int v) {
        if (!isWithin(v, 0, HOURS - 1)) {
            return BAD;
        }
        int was = now.hour;
        now.hour = v;
        return was;
    }

    private int changeMinutes(int v) {
        if (!isWithin(v, 0, MINUTES_OF_AN_HOUR - 1)) {
            return BAD;
        }
        int was = now.minutes;
        now.minutes = v;
        return was;
    }

    private static Eyes ofKind(int kind, int number) {
        switch (kind) {
            case 1: return new Hands(number);
            case 2: return new Sieve(number);
            case 3: return new Plate(number);
            case 4: return new Spade(number);
            case 5: return new Lad(number);
            default: return new Eyes(number);
        }
    }

    private static boolean isOfKind(Eyes who, int kind) {
        switch (kind) {
            case 0: return true;
            case 1: return who instanceof Hands;
            case 2: return who instanceof Sieve;
            case 3: return who instanceof Plate;
            case 4: return who instanceof Spade;
            case 5: return who instanceof Lad;
            default: return false;
        }
    }

    // ---- looks

    private int goodHere(Eyes who) {
        return rules.wet ? 0 : bounded(who.finds(rules.deep, rules.shine), 0, 100);
    }

    private static int takesOf(Eyes who) {
        return Math.max(1, who.takes());
    }

    private static int stampsOf(Eyes who) {
        return Math.max(0, who.stamps());
    }

    private static int gainOf(int odds, int good) {
        return odds * good / 100;
    }

    private static int rateOf(int gain, int minutes) {
        return minutes > 0 ? gain / minutes : 0;
    }

    /** The GAIN of a LOOK, as told ahead of it; STATE, if the CELL is under water. */
    private int gainByLook(Beach beach, Eyes who, int place) {
        rules.survey(beach, place);
        if (rules.wet) {
            return STATE;
        }
        int good = goodHere(who);
        int gain = gainOf(beach.oddsAt(place), good);
        beach.thinOdds(place, good);
        beach.addTreads(place, stampsOf(who));
        beach.pass(takesOf(who));
        return gain;
    }

    /** NEXT on a beach comes to bestLooker, bestCell, bestRate: whether there is any. */
    private boolean choose(Beach beach) {
        bestLooker = NONE;
        bestCell = NONE;
        bestRate = 0;
        for (int place = 0; place < CELLS; place++) {
            int odds = beach.oddsAt(place);
            // without ODDS nothing is gained, so the texts needn't be asked
            if (odds > 0) {
                rules.survey(beach, place);
                weighParty(place, odds);
            }
        }
        return bestLooker != NONE;
    }

    private void weighParty(int place, int odds) {
        for (int i = 0; i < partySize; i++) {
            Eyes who = lookerAt(i);
            if (who != null) {
                int rate = rateOf(gainOf(odds, goodHere(who)), takesOf(who));
                // CELLS come upward, so of like ones only an earlier LOOKER goes ahead
                if (rate > bestRate || (rate == bestRate && i < bestLooker)) {
                    bestLooker = i;
                    bestCell = place;
                    bestRate = rate;
                }
            }
        }
    }

    private void makePlan(int n) {
        thought.become(now);
        steps.clear();
        for (int i = 0; i < n && choose(thought); i++) {
            Eyes who = lookerAt(bestLooker);
            if (who != null) {
                int place = bestCell;
                steps.add(place, gainByLook(thought, who, place), takesOf(who));
            }
        }
    }

    /** JUDGED, in thought; judgedGains are those of all rows ahead. */
    private int firstWrongRow(Sheet rows) {
        thought.become(now);
        judgedGains = 0;
        for (int i = 0; i < rows.size / 2; i++) {
            Eyes who = lookerAt(rows.itemAt(2 * i));
            int place = rows.itemAt(2 * i + 1);
            if (who == null || !isCell(place)) {
                return i;
            }
            int gain = gainByLook(thought, who, place);
            if (gain == STATE) {
                return i;
            }
            judgedGains += gain;
        }
        return NONE;
    }

    // ---- the sea, pictures

    private boolean isWetAt(int place, int hour) {
        return rules.isWetBy(now.rule, place, now.treadsAt(place), hour);
    }

    private int oddsUnderWater(int hour) {
        int sum = 0;
        for (int place = 0; place < CELLS; place++) {
            if (now.oddsAt(place) > 0 && isWetAt(place, hour)) {
                sum += now.oddsAt(place);
            }
        }
        return sum;
    }

    private int hourOfMostDrowned() {
        int best = now.hour;
        int bestOdds = oddsUnderWater(now.hour);
        for (int hour = now.hour + 1; hour < HOURS; hour++) {
            int odds = oddsUnderWater(hour);
            if (odds > bestOdds) {
                best = hour;
                bestOdds = odds;
            }
        }
        return best;
    }

    private static boolean tellsCellsAlone(Sheet pictures) {
        for (int i = 0; i < pictures.size; i++) {
            if (!isCell(pictures.itemAt(i))) {
                return false;
            }
        }
        return true;
    }

    private void addPicture(int place, int w) {
        int x = place % COLUMNS;
        now.addOdds(place, w);
        now.addOdds(place - COLUMNS, w / 2);
        now.addOdds(place + COLUMNS, w / 2);
        if (x > 0) {
            now.addOdds(place - 1, w / 2);
        }
        if (x < COLUMNS - 1) {
            now.addOdds(place + 1, w / 2);
        }
    }

    /** All that AN IMAGE keeps. */
    private static final class Beach {
        final int[] odds = new int[CELLS];
        final int[] treads = new int[CELLS];
        int bag;
        int hour = HOUR_AT_FIRST;
        int minutes;
        int rule;

        void become(Beach other) {
            System.arraycopy(other.odds, 0, odds, 0, CELLS);
            System.arraycopy(other.treads, 0, treads, 0, CELLS);
            bag = other.bag;
            hour = other.hour;
            minutes = other.minutes;
            rule = other.rule;
        }

        int oddsAt(int place) {
            return isCell(place) ? odds[place] : 0;
        }

        int treadsAt(int place) {
            return isCell(place) ? treads[place] : 0;
        }

        /** Beyond the beach's edge nothing is added. */
        void addOdds(int place, int more) {
            if (isCell(place)) {
                odds[place] = Math.min(MOST_ODDS, odds[place] + more);
            }
        }

        void addTreads(int place, int more) {
            if (isCell(place)) {
                treads[place] = Math.min(MOST_TREADS, treads[place] + more);
            }
        }

        void thinOdds(int place, int good) {
            if (isCell(place)) {
                odds[place] = odds[place] * (100 - good) / 100;
            }
        }

        void pass(int taken) {
            int sum = minutes + taken;
            hour = (hour + sum / MINUTES_OF_AN_HOUR) % HOURS;
            minutes = sum % MINUTES_OF_AN_HOUR;
        }

        int oddsOnCells() {
            int sum = 0;
            for (int place = 0; place < CELLS; place++) {
                sum += odds[place];
            }
            return sum;
        }

        int allOdds() {
            return oddsOnCells() + bag;
        }

        int allTreads() {
            int sum = 0;
            for (int place = 0; place < CELLS; place++) {
                sum += treads[place];
            }
            return sum;
        }

        int cellOfMostOdds() {
            int best = NONE;
            int bestOdds = 0;
            for (int place = 0; place < CELLS; place++) {
                if (odds[place] > bestOdds) {
                    best = place;
                    bestOdds = odds[place];
                }
            }
            return best;
        }

        /** The first CELL up to which there are more ODDS than these; NONE, if it is in BAG. */
        int cellBehind(int these) {
            int sum = 0;
            for (int place = 0; place < CELLS; place++) {
                sum += odds[place];
                if (sum > these) {
                    return place;
                }
            }
            return NONE;
        }
    }

    /** A LOOKER; the KINDS under it tell what is unlike. */
    private static class Eyes {
        final int number;

        Eyes(int number) {
            this.number = number;
        }

        int finds(int deep, int shine) {
            return shine - 20 * deep;
        }

        int takes() {
            return 2;
        }

        int stamps() {
            return 2;
        }
    }

    private static class Hands extends Eyes {
        Hands(int number) {
            super(number);
        }

        int finds(int deep, int shine) {
            return 60 + number - 6 * deep;
        }

        int takes() {
            return super.takes() + 4;
        }

        int stamps() {
            return super.stamps() - 1;
        }
    }

    private static final class Sieve extends Hands {
        Sieve(int number) {
            super(number);
        }

        int finds(int deep, int shine) {
            return super.finds(deep, shine) + 30;
        }

        int takes() {
            return super.takes() + number;
        }

        int stamps() {
            return 0;
        }
    }

    private static class Plate extends Eyes {
        Plate(int number) {
            super(number);
        }

        int finds(int deep, int shine) {
            return 70 - 2 * deep;
        }

        int takes() {
            return super.takes() + 1;
        }
    }

    private static final class Spade extends Hands {
        Spade(int number) {
            super(number);
        }

        int finds(int deep, int shine) {
            return super.finds(deep, shine) / 2 + 5 * deep;
        }

        int takes() {
            return 2 * super.takes();
        }
    }

    private static final class Lad extends Plate {
        Lad(int number) {
            super(number);
        }

        int finds(int deep, int shine) {
            return super.finds(deep, shine) - 3 * number;
        }

        int takes() {
            return super.takes() + number;
        }

        int stamps() {
            return super.stamps() + number;
        }
    }

    /** LOOKS of a PLAN, one behind the other. */
    private static final class Steps {
        final int[] cells = new int[MOST_PLANNED];
        final int[] gains = new int[MOST_PLANNED];
        int size;
        int allGains;
        int allMinutes;

        void clear() {
            size = 0;
            allGains = 0;
            allMinutes = 0;
        }

        void add(int place, int gain, int minutes) {
            if (size < MOST_PLANNED) {
                cells[size] = place;
                gains[size] = gain;
                size++;
                allGains += gain;
                allMinutes += minutes;
            }
        }

        int cellAt(int i) {
            return isWithin(i, 0, size - 1) && i < MOST_PLANNED ? cells[i] : NONE;
        }

        int sizeAheadOf(int price) {
            for (int i = 0; i < size && i < MOST_PLANNED; i++) {
                if (gains[i] < price) {
                    return i;
                }
            }
            return size;
        }

        boolean hasCell(int place) {
            for (int i = 0; i < size && i < MOST_PLANNED; i++) {
                if (cells[i] == place) {
                    return true;
                }
            }
            return false;
        }
    }

    /** A row of numbers of a sort, or missing. */
    private static final class Sheet {
        static final int MISSING = -1;
        static final int BYTES = 0;
        static final int SHORTS = 1;

        final int[] items = new int[MOST_ITEMS];
        int sort = MISSING;
        int size;

        boolean isMissing() {
            return sort == MISSING;
        }

        boolean isOdd() {
            return size % 2 != 0;
        }

        void remove() {
            sort = MISSING;
            size = 0;
        }

        void lay(int newSort, int n) {
            sort = newSort;
            size = bounded(n, 0, MOST_ITEMS);
            Arrays.fill(items, 0);
        }

        boolean hasItem(int i) {
            return isWithin(i, 0, size - 1);
        }

        /** Subtracts rather than adds: a sum could wrap. */
        boolean hasRange(int i, int n) {
            return i >= 0 && n >= 0 && n <= size && i <= size - n;
        }

        int itemAt(int i) {
            return hasItem(i) && i < MOST_ITEMS ? items[i] : 0;
        }

        void put(int i, int v) {
            if (hasItem(i) && i < MOST_ITEMS) {
                items[i] = narrowed(v);
            }
        }

        private int narrowed(int v) {
            switch (sort) {
                case BYTES: return (byte) v;
                case SHORTS: return (short) v;
                default: return v;
            }
        }
    }

    /** The TEXTS, and what one of them tells of a CELL. */
    private static final class Rules {
        static final int DEEP_PART = 0;
        static final int SEA_PART = 1;
        static final int SHINE_PART = 2;
        static final int PARTS = 3;

        // a step from 0 on brings that NUMBER, one of these a NAME, the others work on what came
        static final int Y = -1;
        static final int X = -2;
        static final int DEPTH = -3;
        static final int TROD = -4;
        static final int HOUR = -5;
        static final int SUN = -6;
        static final int NAMES = 6;
        static final int OR = -7;
        static final int AND = -8;
        static final int NOT = -9;
        static final int LESS = -10;
        static final int LIKE = -11;
        static final int PLUS = -12;
        static final int MINUS = -13;
        static final int TIMES = -14;
        static final int NEGATE = -15;

        // 5 open ( make six E, in each of which 5 numbers at most wait for the one that comes
        static final int STACK = 6 * 5 + 1;

        // part p of TEXT t has the steps from ends[3t + p] till ends[3t + p + 1]
        private final int[] code = new int[MOST_TEXTS * MOST_BYTES];
        private final int[] ends = new int[MOST_TEXTS * PARTS + 1];
        int size;
        private final int[] names = new int[NAMES];
        private final int[] stack = new int[STACK];
        private int height;
        private final int[] keys = new int[CELLS];
        private final int[] deeps = new int[CELLS];
        private final int[] seas = new int[CELLS];
        private final int[] shines = new int[CELLS];
        int deep;
        boolean wet;
        int shine;

        boolean isFull() {
            return size >= MOST_TEXTS;
        }

        boolean hasText(int i) {
            return isWithin(i, 0, size - 1);
        }

        /** What was read from a tape without a FAULT is one TEXT more. */
        void addFrom(Tape read) {
            int first = size * PARTS;
            if (isFull() || first + PARTS >= ends.length) {
                return;
            }
            int base = ends[first];
            for (int i = 0; i < read.codeSize && base + i < code.length; i++) {
                code[base + i] = read.stepAt(i);
            }
            ends[first + 1] = base + read.deepEnd;
            ends[first + 2] = base + read.seaEnd;
            ends[first + 3] = base + read.codeSize;
            size++;
        }

        /** What THE RULE of a beach tells of a CELL comes to deep, wet, shine. */
        void survey(Beach beach, int place) {
            if (!isCell(place)) {
                return;
            }
            // a TEXT never changes, so what it told stays true for like TREADS and a like HOUR
            int key = (beach.rule * (MOST_TREADS + 1) + beach.treads[place]) * HOURS + beach.hour + 1;
            if (keys[place] != key) {
                keys[place] = key;
                stand(place, beach.treads[place], beach.hour);
                deeps[place] = bounded(value(beach.rule, DEEP_PART), 0, MOST_DEEP);
                seas[place] = value(beach.rule, SEA_PART);
                names[-1 - DEPTH] = deeps[place];
                shines[place] = bounded(value(beach.rule, SHINE_PART), 0, MOST_SHINE);
            }
            deep = deeps[place];
            wet = seas[place] != 0;
            shine = shines[place];
        }

        boolean isWetBy(int rule, int place, int trod, int hour) {
            stand(place, trod, hour);
            return value(rule, SEA_PART) != 0;
        }

        private void stand(int place, int trod, int hour) {
            names[-1 - Y] = place / COLUMNS;
            names[-1 - X] = place % COLUMNS;
            names[-1 - DEPTH] = 0;
            names[-1 - TROD] = trod;
            names[-1 - HOUR] = hour;
            names[-1 - SUN] = Math.max(0, 100 - 10 * Math.abs(hour - HOUR_OF_MOST_SUN));
        }

        private int value(int rule, int part) {
            height = 0;
            if (!hasText(rule) || !isWithin(part, 0, PARTS - 1)) {
                return 0;
            }
            int last = ends[rule * PARTS + part + 1];
            for (int i = ends[rule * PARTS + part]; i < last && i < code.length; i++) {
                take(code[i]);
            }
            return pop();
        }

        private void take(int step) {
            if (step >= 0) {
                push(step);
            } else if (step >= -NAMES) {
                push(names[-1 - step]);
            } else if (step == NOT) {
                push(pop() == 0 ? 1 : 0);
            } else if (step == NEGATE) {
                push(-pop());
            } else {
                int right = pop();
                push(joined(step, pop(), right));
            }
        }

        private static int joined(int step, int left, int right) {
            switch (step) {
                case OR: return left != 0 || right != 0 ? 1 : 0;
                case AND: return left != 0 && right != 0 ? 1 : 0;
                case LESS: return left < right ? 1 : 0;
                case LIKE: return left == right ? 1 : 0;
                case PLUS: return left + right;
                case MINUS: return left - right;
                default: return left * right;
            }
        }

        private void push(int v) {
            if (height >= 0 && height < STACK) {
                stack[height] = v;
                height++;
            }
        }

        private int pop() {
            if (height <= 0 || height > STACK) {
                return 0;
            }
            height--;
            return stack[height];
        }
    }

    /** THE TAPE, and how a TEXT is read from it: all TOKENS first, then what they say. */
    private static final class Tape {
        static final int END = 0;
        static final int FAULTY = 1;
        static final int NUMBER = 2;
        static final int NAME = 3;
        static final int DEEP = 4;
        static final int SEA = 5;
        static final int SHINE = 6;
        static final int OR = 7;
        static final int AND = 8;
        static final int NOT = 9;
        // the token of a SIGN is its byte
        static final int OPENS = '(';
        static final int CLOSES = ')';
        static final int STOP = ';';
        static final int PLUS = '+';
        static final int MINUS = '-';
        static final int TIMES = '*';
        static final int LESS = '<';
        static final int LIKE = '=';

        private final int[] bytes = new int[MOST_BYTES];
        int size;
        int fault;
        private final int[] tokens = new int[MOST_BYTES + 1];
        private final int[] worths = new int[MOST_BYTES + 1];
        private final int[] places = new int[MOST_BYTES + 1];
        private int tokensSize;
        private int at;
        private int token;
        private int open;
        private final int[] code = new int[MOST_BYTES];
        int codeSize;
        int deepEnd;
        int seaEnd;

        boolean append(int letter) {
            if (size >= MOST_BYTES) {
                return false;
            }
            bytes[size] = letter;
            size++;
            return true;
        }

        void clear() {
            size = 0;
        }

        int stepAt(int i) {
            return isWithin(i, 0, MOST_BYTES - 1) ? code[i] : 0;
        }

        /** Whether it is a TEXT; if not, its place is in fault. */
        boolean readText() {
            splitTokens();
            fault = 0;
            open = 0;
            codeSize = 0;
            goTo(0);
            if (!readPart(DEEP)) {
                return false;
            }
            deepEnd = codeSize;
            if (!readPart(SEA)) {
                return false;
            }
            seaEnd = codeSize;
            return readPart(SHINE) && expect(END);
        }

        private boolean readPart(int key) {
            return expect(key) && readOr() && expect(STOP);
        }

        private boolean readOr() {
            if (!readAnd()) {
                return false;
            }
            for (int i = 0; i < MOST_BYTES && token == OR; i++) {
                goTo(at + 1);
                if (!readAnd()) {
                    return false;
                }
                emit(Rules.OR);
            }
            return true;
        }

        private boolean readAnd() {
            if (!readNot()) {
                return false;
            }
            for (int i = 0; i < MOST_BYTES && token == AND; i++) {
                goTo(at + 1);
                if (!readNot()) {
                    return false;
                }
                emit(Rules.AND);
            }
            return true;
        }

        private boolean readNot() {
            if (token != NOT) {
                return readComparison();
            }
            if (!enter() || !readNot()) {
                return false;
            }
            open--;
            emit(Rules.NOT);
            return true;
        }

        private boolean readComparison() {
            if (!readSum()) {
                return false;
            }
            if (token != LESS && token != LIKE) {
                return true;
            }
            int step = token == LESS ? Rules.LESS : Rules.LIKE;
            goTo(at + 1);
            if (!readSum()) {
                return false;
            }
            emit(step);
            return true;
        }

        private boolean readSum() {
            if (!readTerm()) {
                return false;
            }
            for (int i = 0; i < MOST_BYTES && (token == PLUS || token == MINUS); i++) {
                int step = token == PLUS ? Rules.PLUS : Rules.MINUS;
                goTo(at + 1);
                if (!readTerm()) {
                    return false;
                }
                emit(step);
            }
            return true;
        }

        private boolean readTerm() {
            if (!readOne()) {
                return false;
            }
            for (int i = 0; i < MOST_BYTES && token == TIMES; i++) {
                goTo(at + 1);
                if (!readOne()) {
                    return false;
                }
                emit(Rules.TIMES);
            }
            return true;
        }

        private boolean readOne() {
            switch (token) {
                case NUMBER:
                case NAME:
                    emit(worthHere());
                    goTo(at + 1);
                    return true;
                case MINUS: return readNegated();
                case OPENS: return readBracket();
                default: return refuse();
            }
        }

        private boolean readNegated() {
            if (!enter() || !readOne()) {
                return false;
            }
            open--;
            emit(Rules.NEGATE);
            return true;
        }

        private boolean readBracket() {
            if (!enter() || !readOr() || !expect(CLOSES)) {
                return false;
            }
            open--;
            return true;
        }

        /** Goes behind a ( , a not or a - ; that few are open keeps the recursion low, too. */
        private boolean enter() {
            if (open >= MOST_OPEN) {
                return refuse();
            }
            open++;
            goTo(at + 1);
            return true;
        }

        private boolean expect(int wanted) {
            if (token != wanted) {
                return refuse();
            }
            goTo(at + 1);
            return true;
        }

        private boolean refuse() {
            fault = isWithin(at, 0, tokensSize - 1) ? places[at] : size;
            return false;
        }

        private void goTo(int i) {
            at = i;
            token = isWithin(i, 0, tokensSize - 1) ? tokens[i] : END;
        }

        private int worthHere() {
            return isWithin(at, 0, tokensSize - 1) ? worths[at] : 0;
        }

        private void emit(int step) {
            if (codeSize < MOST_BYTES) {
                code[codeSize] = step;
                codeSize++;
            }
        }

        private void splitTokens() {
            tokensSize = 0;
            int place = 0;
            for (int i = 0; i < MOST_BYTES && place < size; i++) {
                int first = byteAt(place);
                int end = place + 1;
                if (isLetter(first)) {
                    end = endOfWord(place);
                    addWord(place, end);
                } else if (isDigit(first)) {
                    end = endOfNumber(place);
                    addNumber(place, end);
                } else if (first != 32 && first != 10) {
                    addToken(isSign(first) ? first : FAULTY, 0, place);
                }
                place = end;
            }
        }

        private void addToken(int kind, int worth, int place) {
            if (tokensSize < MOST_BYTES) {
                tokens[tokensSize] = kind;
                worths[tokensSize] = worth;
                places[tokensSize] = place;
                tokensSize++;
            }
        }

        private void addNumber(int place, int end) {
            if (end - place > MOST_DIGITS) {
                addToken(FAULTY, 0, place);
                return;
            }
            int worth = 0;
            for (int i = place; i < end; i++) {
                worth = worth * 10 + byteAt(i) - '0';
            }
            addToken(NUMBER, worth, place);
        }

        private void addWord(int place, int end) {
            int name = nameOf(place, end);
            if (name != 0) {
                addToken(NAME, name, place);
            } else {
                addToken(keyOf(place, end), 0, place);
            }
        }

        private int endOfWord(int place) {
            int end = place;
            for (int i = 0; i < MOST_BYTES && isLetter(byteAt(end)); i++) {
                end++;
            }
            return end;
        }

        private int endOfNumber(int place) {
            int end = place;
            for (int i = 0; i < MOST_BYTES && isDigit(byteAt(end)); i++) {
                end++;
            }
            return end;
        }

        /** The step of a NAME; 0, if the WORD is none. */
        private int nameOf(int place, int end) {
            if (isWord("y", place, end)) {
                return Rules.Y;
            }
            if (isWord("x", place, end)) {
                return Rules.X;
            }
            if (isWord("depth", place, end)) {
                return Rules.DEPTH;
            }
            if (isWord("trod", place, end)) {
                return Rules.TROD;
            }
            if (isWord("hour", place, end)) {
                return Rules.HOUR;
            }
            return isWord("sun", place, end) ? Rules.SUN : 0;
        }

        private int keyOf(int place, int end) {
            if (isWord("deep", place, end)) {
                return DEEP;
            }
            if (isWord("sea", place, end)) {
                return SEA;
            }
            if (isWord("shine", place, end)) {
                return SHINE;
            }
            if (isWord("or", place, end)) {
                return OR;
            }
            if (isWord("and", place, end)) {
                return AND;
            }
            return isWord("not", place, end) ? NOT : FAULTY;
        }

        private boolean isWord(String word, int place, int end) {
            if (word.length() != end - place) {
                return false;
            }
            for (int i = 0; i < word.length(); i++) {
                if (word.charAt(i) != byteAt(place + i)) {
                    return false;
                }
            }
            return true;
        }

        private int byteAt(int i) {
            return i >= 0 && i < size && i < MOST_BYTES ? bytes[i] : -1;
        }

        private static boolean isLetter(int letter) {
            return 'a' <= letter && letter <= 'z';
        }

        private static boolean isDigit(int letter) {
            return '0' <= letter && letter <= '9';
        }

        private static boolean isSign(int letter) {
            switch (letter) {
                case OPENS:
                case CLOSES:
                case STOP:
                case PLUS:
                case MINUS:
                case TIMES:
                case LESS:
                case LIKE:
                    return true;
                default:
                    return false;
            }
        }
    }
}
