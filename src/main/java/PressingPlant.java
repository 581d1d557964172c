/**
 * A works that makes records: metals grown on one another, presses and their runs, rules in texts,
 * clicks and where they come from, sales, orders and what they cost. ../shared/DOC.md says what each
 * call does and answers; README.md how the classes below share the work.
 */
public final class PressingPlant {
    public static final int BAD = -1, FULL = -2, FINDING = -3, STATE = -4, NONE = -9;

    private static final int NOTHING = 1, BEYOND = 2, UNLIKE = 3, NOUGHT = 4, SIZE = 5;
    private static final int LACQUER = 0, MASTER = 1, MOTHER = 2, STAMPER = 3;
    private static final int THERE = 0, BROKEN = 1;
    private static final int ROWS = 6, ROW_MOST = 24, TEXTS = 4, TEXT_MOST = 48, BLANK = 32;
    private static final int LAST_DAY = 999, LAST_TURN = 999;
    private static final int SIDES = 20, HANDS = 10, LANDS = 8, KINDS = 4, FACES = 2, PRESSES = 6;
    private static final int METALS_MOST = 40, CHANGES_MOST = 120, RUNS_MOST = 30, RULES_MOST = 24;
    private static final int REPORTS_MOST = 60, SALES_MOST = 60, ORDERS_MOST = 9;
    private static final int COPIES_MOST = 10000, ORDER_MOST = 100000, OFF_MOST = 8;
    private static final int PLAN_PRESSES = 3, CAUSE_MOST = 3, PLACE_FACTS = 6, PLACES_MOST = 160;
    private static final int DIFFERENCE_MOST = 1000000000;

    private final Told answers = new Told();
    private final Shelf rows = new Shelf(ROWS, ROW_MOST, 0);
    private final Shelf texts = new Shelf(TEXTS, TEXT_MOST, BLANK);
    private final Metals metals = new Metals();
    private final Presses presses = new Presses();
    private final Runs runs = new Runs();
    private final Rules rules = new Rules();
    private final Reports reports = new Reports();
    private final Search search = new Search();
    private final Sales sales = new Sales();
    private final Orders orders = new Orders();
    private int today = 0;

    public PressingPlant() {
    }

    // ---- 1 rows, texts, days

    public int row(int r, int n) {
        if (!rows.has(r) || n > ROW_MOST) return BAD;
        if (n < 0) return answers.found(SIZE);
        rows.bring(r, n);
        return n;
    }

    public int lay(int r, int i, int v) {
        if (!rows.has(r)) return BAD;
        if (rows.missing(r)) return answers.found(NOTHING);
        if (!rows.inside(r, i)) return answers.found(BEYOND);
        return answers.asks(rows.change(r, i, v));
    }

    public int tear(int r) {
        if (!rows.has(r)) return BAD;
        if (rows.missing(r)) return answers.found(NOTHING);
        rows.drop(r);
        return 1;
    }

    public int copy(int r, int i, int to, int j, int n) {
        if (!rows.has(r) || !rows.has(to)) return BAD;
        if (n < 0) return answers.found(SIZE);
        if (rows.missing(r) || rows.missing(to)) return answers.found(NOTHING);
        if (!rows.spans(r, i, n) || !rows.spans(to, j, n)) return answers.found(BEYOND);
        rows.move(r, i, to, j, n);
        return 1;
    }

    public int text(int t, int n) {
        if (!texts.has(t) || n > TEXT_MOST) return BAD;
        if (n < 0) return answers.found(SIZE);
        texts.bring(t, n);
        return n;
    }

    public int put(int t, int i, int v) {
        if (!texts.has(t)) return BAD;
        if (texts.missing(t)) return answers.found(NOTHING);
        if (!texts.inside(t, i)) return answers.found(BEYOND);
        return 1000 + texts.change(t, i, (byte) v);
    }

    public int burn(int t) {
        if (!texts.has(t)) return BAD;
        if (texts.missing(t)) return answers.found(NOTHING);
        texts.drop(t);
        return 1;
    }

    public int fault(int t) {
        if (!texts.has(t)) return BAD;
        if (texts.missing(t)) return answers.found(NOTHING);
        return rules.read(texts, t);
    }

    public int later(int n) {
        if (n < 0 || n > LAST_DAY - today) return BAD;
        today += n;
        return today;
    }

    // ---- 2 metals

    public int lacquer(int side, int hand) {
        if (!below(side, SIDES) || !below(hand, HANDS)) return BAD;
        if (metals.count >= METALS_MOST) return FULL;
        if (metals.isCut(side)) return STATE;
        return metals.make(LACQUER, side, NONE, hand, today);
    }

    public int grow(int metal, int kind, int hand) {
        if (!metals.has(metal) || kind < MASTER || kind > STAMPER || !below(hand, HANDS)) return BAD;
        if (metals.count >= METALS_MOST) return FULL;
        if (metals.howOf(metal) != THERE || presses.hold(metal)) return STATE;
        int may = rules.inForce(Rules.growing(metals.kindOf(metal), kind), today, today);
        if (metals.grownOf(metal, kind) >= may) return STATE;
        return metals.make(kind, metals.sideOf(metal), metal, hand, today);
    }

    public int state(int metal, int how) {
        if (!metals.has(metal) || how < THERE || how > 3) return BAD;
        int was = metals.howOf(metal);
        if (presses.hold(metal) || was == BROKEN) return STATE;
        if (metals.changes >= CHANGES_MOST) return FULL;
        metals.change(metal, how, today);
        return was;
    }

    public int told(int metal, int what) {
        if (!metals.has(metal) || !below(what, 7)) return BAD;
        return answers.asks(metals.fact(metal, what));
    }

    public int mark(int metal, int kind) {
        if (!metals.has(metal) || !below(kind, KINDS)) return BAD;
        if (metals.kindOf(metal) != kind) return answers.found(UNLIKE);
        switch (kind) {
            case LACQUER: return metals.madeOf(metal);
            case MASTER: return metals.thereOf(metal, MOTHER);
            case MOTHER: return metals.thereOf(metal, STAMPER);
            default: return runs.wear(metal);
        }
    }

    public int asOf(int metal, int day) {
        if (!metals.has(metal) || !isDay(day)) return BAD;
        return metals.howOn(metal, day);
    }

    public int lead(int metal) {
        if (!metals.has(metal)) return BAD;
        answers.asks(metals.firstAbove(metal));
        return metals.depth(metal);
    }

    // ---- 3 presses, runs

    public int marry(int press, int a, int b) {
        if (!below(press, PRESSES) || !metals.has(a) || !metals.has(b) || a == b) return BAD;
        if (metals.kindOf(a) != STAMPER || metals.kindOf(b) != STAMPER) return answers.found(UNLIKE);
        if (!presses.empty(press) || !isFree(a) || !isFree(b)) return STATE;
        presses.load(press, a, b);
        return 1;
    }

    private boolean isFree(int stamper) {
        return metals.howOf(stamper) == THERE && !presses.hold(stamper);
    }

    public int part(int press) {
        if (!below(press, PRESSES)) return BAD;
        if (presses.empty(press)) return answers.found(NOTHING);
        int first = presses.stamper(press, 0);
        presses.load(press, NONE, NONE);
        return first;
    }

    public int held(int press, int face) {
        if (!below(press, PRESSES) || !below(face, FACES)) return BAD;
        if (presses.empty(press)) return answers.found(NOTHING);
        return presses.stamper(press, face);
    }

    public int off(int press, int x, int y) {
        if (!below(press, PRESSES) || !isOff(x) || !isOff(y)) return BAD;
        presses.shift(press, x, y);
        return 1;
    }

    private static boolean isOff(int v) {
        return v >= -OFF_MOST && v <= OFF_MOST;
    }

    public int run(int press, int n, boolean hot) {
        if (!below(press, PRESSES) || n < 1 || n > COPIES_MOST) return BAD;
        if (presses.empty(press)) return answers.found(NOTHING);
        if (runs.count >= RUNS_MOST) return FULL;
        int more = hot ? 2 * n : n;
        int may = rules.inForce(Rules.WEAR, today, today);
        if (runs.wear(presses.stamper(press, 0)) + more > may) return STATE;
        if (runs.wear(presses.stamper(press, 1)) + more > may) return STATE;
        return runs.make(presses, press, n, hot, today);
    }

    public int runTold(int r, int what) {
        if (!runs.has(r) || !below(what, 7)) return BAD;
        return answers.asks(runFact(r, what));
    }

    private int runFact(int r, int what) {
        return what == 6 ? sales.kept(r) : runs.fact(r, what);
    }

    public int mean(int metal) {
        if (!metals.has(metal)) return BAD;
        if (metals.kindOf(metal) != STAMPER) return answers.found(UNLIKE);
        int number = runs.numberOf(metal);
        if (number <= 0) return answers.found(NOUGHT);
        return answers.asks(runs.copiesOf(metal) / number);
    }

    // ---- 4 rules

    public int rule(int t, int from) {
        if (!texts.has(t) || !isDay(from)) return BAD;
        if (rules.count >= RULES_MOST) return FULL;
        if (texts.missing(t)) return answers.found(NOTHING);
        if (rules.read(texts, t) != NONE) return STATE;
        return rules.make(today, from);
    }

    public int force(int what, int a, int b, int day, int known) {
        int thing = Rules.thing(what, a, b);
        if (thing < 0 || !isDay(day) || !isDay(known)) return BAD;
        return rules.inForce(thing, day, known);
    }

    public int why(int what, int a, int b, int day, int known) {
        int thing = Rules.thing(what, a, b);
        if (thing < 0 || !isDay(day) || !isDay(known)) return BAD;
        return rules.ruleFor(thing, day, known);
    }

    // ---- 5 clicks

    public int report(int r, int face, int turn, boolean heard) {
        if (!runs.has(r) || !below(face, FACES) || !isTurn(turn)) return BAD;
        if (reports.count >= REPORTS_MOST) return FULL;
        return reports.make(r, face, turn, heard);
    }

    public int cause(int turn, int misses) {
        if (!isTurn(turn) || !areMisses(misses)) return BAD;
        if (!explain(turn, misses, 0L)) return NONE;
        search.keepCause(metals, runs, turn);
        answers.asks(search.causeMisses());
        return search.size;
    }

    private static boolean areMisses(int misses) {
        return misses >= 0 && misses <= REPORTS_MOST;
    }

    private boolean explain(int turn, int misses, long toTally) {
        search.places.gather(metals, runs);
        return search.explain(reports, turn, misses, toTally);
    }

    public int causeTold(int i, int what) {
        if (!below(what, PLACE_FACTS)) return BAD;
        return search.causeFact(i, what);
    }

    public int rivals(int turn, int misses) {
        if (!isTurn(turn) || !areMisses(misses)) return BAD;
        return explain(turn, misses, 0L) ? search.rivals : NONE;
    }

    public int nextTest(int turn, int misses) {
        if (!isTurn(turn) || !areMisses(misses)) return BAD;
        long untried = runs.allFaces() & ~reports.faces(turn, true) & ~reports.faces(turn, false);
        if (!explain(turn, misses, untried)) return NONE;
        int next = search.evenest();
        if (next == NONE) return NONE;
        answers.asks(search.greaterPart(next));
        return 10 * (next / FACES) + next % FACES;
    }

    public int recall(int metal, int from, int land) {
        if (!metals.has(metal) || !isDay(from) || !below(land, LANDS)) return BAD;
        int copies = 0;
        for (int r = 0; r < runs.count; r++) {
            if (runIsOn(r, metal, from)) copies += sales.keptIn(r, land);
        }
        return copies;
    }

    private boolean runIsOn(int r, int metal, int from) {
        int day = runs.dayOf(r);
        return metals.madeFrom(runs.stamper(r, 0), day, metal) >= from
            || metals.madeFrom(runs.stamper(r, 1), day, metal) >= from;
    }

    public int swish(int r, int turn) {
        if (!runs.has(r) || !isTurn(turn)) return BAD;
        return runs.swishAt(r, turn);
    }

    public int swishRun(int turns, int amounts) {
        if (!rows.has(turns) || !rows.has(amounts)) return BAD;
        if (rows.missing(turns) || rows.missing(amounts)) return answers.found(NOTHING);
        if (rows.size(turns) != rows.size(amounts)) return answers.found(SIZE);
        if (!areTurns(turns)) return answers.found(UNLIKE);
        int nearest = NONE;
        long least = 0;
        for (int r = 0; r < runs.count; r++) {
            long apart = difference(r, turns, amounts);
            if (nearest == NONE || apart < least) {
                least = apart;
                nearest = r;
            }
        }
        if (nearest == NONE) return NONE;
        answers.asks((int) Math.min(least, (long) DIFFERENCE_MOST));
        return nearest;
    }

    private boolean areTurns(int turns) {
        for (int i = 0; i < rows.size(turns); i++) {
            if (!isTurn(rows.at(turns, i))) return false;
        }
        return true;
    }

    private long difference(int r, int turns, int amounts) {
        long sum = 0;
        for (int i = 0; i < rows.size(turns); i++) {
            long swish = runs.swishAt(r, rows.at(turns, i));
            sum += Math.abs(swish - rows.at(amounts, i));
        }
        return sum;
    }

    // ---- 6 sales, orders

    public int sell(int r, int n, int land) {
        if (!runs.has(r) || n < 1 || n > COPIES_MOST || !below(land, LANDS)) return BAD;
        if (sales.count >= SALES_MOST) return FULL;
        int left = runs.copies(r) - sales.kept(r);
        if (n > left || rules.inForce(Rules.selling(land), today, today) == 0) return STATE;
        sales.make(r, n, land, today);
        return left - n;
    }

    public int back(int r, int n, int land) {
        if (!runs.has(r) || n < 1 || n > COPIES_MOST || !below(land, LANDS)) return BAD;
        if (sales.count >= SALES_MOST) return FULL;
        if (n > sales.keptIn(r, land)) return STATE;
        sales.make(r, -n, land, today);
        return runs.copies(r) - sales.kept(r);
    }

    public int owe(int side, int land, int from, int to) {
        if (!below(side, SIDES) || !below(land, LANDS) || !isDay(from) || !isDay(to)) return BAD;
        if (from > to) return BAD;
        long sum = 0;
        for (int s = 0; s < sales.count; s++) {
            int day = sales.day[s];
            if (sales.land[s] == land && day >= from && day <= to) {
                long pence = rules.inForce(Rules.paying(land), day, day);
                sum += pence * sales.copies[s] * facesWith(sales.run[s], side);
            }
        }
        answers.pence = sum;
        return 1;
    }

    private int facesWith(int r, int side) {
        int faces = 0;
        for (int face = 0; face < FACES; face++) {
            if (metals.sideOf(runs.stamper(r, face)) == side) faces++;
        }
        return faces;
    }

    public long pence() {
        return answers.pence;
    }

    public int share(int side) {
        if (!below(side, SIDES)) return BAD;
        long sold = 0;
        long sent = 0;
        for (int s = 0; s < sales.count; s++) {
            int copies = sales.copies[s];
            if (facesWith(sales.run[s], side) == 0) continue;
            if (copies > 0) sold += copies;
            else sent -= copies;
        }
        if (sold == 0) return answers.found(NOUGHT);
        answers.fraction(sent, sold);
        return 1;
    }

    public int order(int n, int day) {
        if (n < 1 || n > ORDER_MOST || !isDay(day)) return BAD;
        if (orders.count >= ORDERS_MOST) return FULL;
        return orders.make(n, day);
    }

    public int plan(int presses, int rate) {
        if (presses < 1 || presses > PLAN_PRESSES || rate < 1 || rate > COPIES_MOST) return BAD;
        orders.choose(presses, rate, today);
        answers.asks(orders.met);
        return Integer.bitCount(orders.met);
    }

    public int planned(int order) {
        if (!orders.has(order)) return BAD;
        return orders.pressOf(order);
    }

    public int guess(int side) {
        if (!below(side, SIDES)) return BAD;
        int week = keptOf(side, today - 6, today);
        int ahead = keptOf(side, today - 13, today - 7);
        return Math.max(0, week + (week - ahead) / 2);
    }

    private int keptOf(int side, int from, int to) {
        int copies = 0;
        for (int s = 0; s < sales.count; s++) {
            boolean then = sales.day[s] >= from && sales.day[s] <= to;
            if (then && facesWith(sales.run[s], side) > 0) copies += sales.copies[s];
        }
        return copies;
    }

    public int cost(int side, int come, int wax, int lost) {
        if (!below(side, SIDES) || come < 0 || come > 100000) return BAD;
        if (wax < 0 || wax > 1000 || lost < 0 || lost > 1000) return BAD;
        long over = (long) guess(side) - come;
        answers.pence = over > 0 ? over * wax : -over * lost;
        if (over == 0) return 0;
        return over > 0 ? 1 : 2;
    }

    // ---- 7 what is told

    public int asked() {
        return answers.asked;
    }

    public long upper() {
        return answers.upper;
    }

    public long lower() {
        return answers.lower;
    }

    public int count(int what) {
        switch (what) {
            case 0: return today;
            case 1: return metals.count;
            case 2: return metals.there();
            case 3: return runs.count;
            case 4: return rules.count;
            case 5: return reports.count;
            case 6: return sales.count;
            case 7: return orders.count;
            case 8: return metals.changes;
            case 9: return rows.present();
            case 10: return texts.present();
            default: return BAD;
        }
    }

    public int finding() {
        return answers.finding;
    }

    public int findings(int f) {
        return f < NOTHING || f > SIZE ? BAD : answers.times[f];
    }

    public long digest() {
        long h = 17;
        for (int what = 0; what <= 10; what++) h = 31 * h + count(what);
        h = metals.mix(h);
        h = presses.mix(h);
        for (int r = 0; r < runs.count; r++) {
            for (int what = 0; what <= 6; what++) h = 31 * h + runFact(r, what);
        }
        h = rules.mix(h, today);
        h = reports.mix(h);
        h = sales.mix(h);
        h = orders.mix(h);
        h = rows.mix(h);
        return texts.mix(h);
    }

    private static boolean below(int v, int bound) {
        return v >= 0 && v < bound;
    }

    private static boolean isDay(int v) {
        return v >= 0 && v <= LAST_DAY;
    }

    private static boolean isTurn(int v) {
        return v >= 0 && v <= LAST_TURN;
    }

    /** What calls tell beside their answers. */
    private static final class Told {
        final int[] times = new int[SIZE + 1];
        int finding = 0;
        int asked = 0;
        long upper = 0;
        long lower = 1;
        long pence = 0;

        int found(int f) {
            finding = f;
            if (f >= 0 && f < times.length) times[f]++;
            return FINDING;
        }

        int asks(int v) {
            asked = v;
            return 1;
        }

        void fraction(long above, long under) {
            long common = commonDivisor(above, under);
            if (common <= 0) return;
            upper = above / common;
            lower = under / common;
        }

        private static long commonDivisor(long a, long b) {
            for (int i = 0; i < 200 && b != 0; i++) {
                long rest = a % b;
                a = b;
                b = rest;
            }
            return a;
        }
    }

    /** Rows of numbers side by side in one array, each with a size or missing. */
    private static final class Shelf {
        final int width;
        final int blank;
        final int[] sizes;
        final int[] cells;

        Shelf(int number, int width, int blank) {
            this.width = width;
            this.blank = blank;
            this.sizes = new int[number];
            this.cells = new int[number * width];
            for (int r = 0; r < number; r++) sizes[r] = -1;
        }

        boolean has(int r) {
            return r >= 0 && r < sizes.length;
        }

        int size(int r) {
            return has(r) ? sizes[r] : -1;
        }

        boolean missing(int r) {
            return size(r) < 0;
        }

        boolean inside(int r, int i) {
            return i >= 0 && i < size(r);
        }

        boolean spans(int r, int i, int n) {
            return i >= 0 && i <= size(r) && n >= 0 && n <= size(r) - i;
        }

        int at(int r, int i) {
            return inside(r, i) ? cells[r * width + i] : blank;
        }

        void bring(int r, int n) {
            if (!has(r) || n < 0 || n > width) return;
            sizes[r] = n;
            for (int i = 0; i < n; i++) cells[r * width + i] = blank;
        }

        void drop(int r) {
            if (has(r)) sizes[r] = -1;
        }

        int change(int r, int i, int v) {
            int was = at(r, i);
            if (inside(r, i)) cells[r * width + i] = v;
            return was;
        }

        void move(int r, int i, int to, int j, int n) {
            if (!spans(r, i, n) || !spans(to, j, n)) return;
            System.arraycopy(cells, r * width + i, cells, to * width + j, n);
        }

        int present() {
            int number = 0;
            for (int r = 0; r < sizes.length; r++) {
                if (sizes[r] >= 0) number++;
            }
            return number;
        }

        long mix(long h) {
            for (int r = 0; r < sizes.length; r++) {
                h = 31 * h + sizes[r];
                for (int i = 0; i < sizes[r]; i++) h = 31 * h + at(r, i);
            }
            return h;
        }
    }

    /** All metals that ever came about, and the changes that were told of them. */
    private static final class Metals {
        final int[] kind = new int[METALS_MOST];
        final int[] side = new int[METALS_MOST];
        final int[] father = new int[METALS_MOST];
        final int[] hand = new int[METALS_MOST];
        final int[] born = new int[METALS_MOST];
        final int[] how = new int[METALS_MOST];
        final int[] changed = new int[CHANGES_MOST];
        final int[] changedTo = new int[CHANGES_MOST];
        final int[] changedOn = new int[CHANGES_MOST];
        int count = 0;
        int changes = 0;

        boolean has(int m) {
            return m >= 0 && m < count && m < METALS_MOST;
        }

        int kindOf(int m) {
            return has(m) ? kind[m] : NONE;
        }

        int sideOf(int m) {
            return has(m) ? side[m] : NONE;
        }

        int fatherOf(int m) {
            return has(m) ? father[m] : NONE;
        }

        int bornOn(int m) {
            return has(m) ? born[m] : NONE;
        }

        int howOf(int m) {
            return has(m) ? how[m] : NONE;
        }

        boolean isCut(int s) {
            for (int m = 0; m < count; m++) {
                if (kind[m] == LACQUER && side[m] == s) return true;
            }
            return false;
        }

        int make(int k, int s, int from, int by, int day) {
            int m = count;
            if (m < 0 || m >= METALS_MOST) return FULL;
            kind[m] = k;
            side[m] = s;
            father[m] = from;
            hand[m] = by;
            born[m] = day;
            how[m] = THERE;
            count = m + 1;
            return m;
        }

        void change(int m, int to, int day) {
            int c = changes;
            if (!has(m) || c < 0 || c >= CHANGES_MOST) return;
            changed[c] = m;
            changedTo[c] = to;
            changedOn[c] = day;
            changes = c + 1;
            how[m] = to;
        }

        int howOn(int m, int day) {
            if (!has(m) || day < born[m]) return NONE;
            int was = THERE;
            for (int c = 0; c < changes; c++) {
                if (changed[c] == m && changedOn[c] <= day) was = changedTo[c];
            }
            return was;
        }

        int grown(int m) {
            int number = 0;
            for (int x = 0; x < count; x++) {
                if (father[x] == m) number++;
            }
            return number;
        }

        int grownOf(int m, int k) {
            int number = 0;
            for (int x = 0; x < count; x++) {
                if (father[x] == m && kind[x] == k) number++;
            }
            return number;
        }

        int thereOf(int m, int k) {
            int number = 0;
            for (int x = 0; x < count; x++) {
                if (father[x] == m && kind[x] == k && how[x] == THERE) number++;
            }
            return number;
        }

        int there() {
            int number = 0;
            for (int m = 0; m < count; m++) {
                if (how[m] == THERE) number++;
            }
            return number;
        }

        /**
         * Of what was made of a metal on a day: the day on which it, or what it comes from, was made directly
         * of the one above; NONE: it is not from that one.
         */
        int madeFrom(int m, int day, int above) {
            int on = day;
            int at = m;
            for (int step = 0; step < METALS_MOST && has(at); step++) {
                if (at == above) return on;
                on = born[at];
                at = father[at];
            }
            return NONE;
        }

        int madeOf(int m) {
            int number = 0;
            for (int x = 0; x < count; x++) {
                if (x != m && madeFrom(x, 0, m) != NONE) number++;
            }
            return number;
        }

        int depth(int m) {
            int above = 0;
            for (int at = fatherOf(m); has(at) && above < METALS_MOST; at = father[at]) above++;
            return above;
        }

        int firstAbove(int m) {
            int first = m;
            for (int step = 0; step < METALS_MOST && has(fatherOf(first)); step++) first = fatherOf(first);
            return first;
        }

        int fact(int m, int what) {
            if (!has(m)) return NONE;
            switch (what) {
                case 0: return kind[m];
                case 1: return side[m];
                case 2: return father[m];
                case 3: return hand[m];
                case 4: return born[m];
                case 5: return how[m];
                default: return grown(m);
            }
        }

        /** The turn of a record as it lies on a metal. */
        int turnOn(int m, int turn) {
            int k = kindOf(m);
            return k == MASTER || k == STAMPER ? LAST_TURN - turn : turn;
        }

        long mix(long h) {
            for (int m = 0; m < count; m++) {
                for (int what = 0; what <= 6; what++) h = 31 * h + fact(m, what);
            }
            return h;
        }
    }

    /** What each press holds, and how far its hole is off. */
    private static final class Presses {
        final int[] stampers = new int[PRESSES * FACES];
        final int[] x = new int[PRESSES];
        final int[] y = new int[PRESSES];

        Presses() {
            for (int i = 0; i < stampers.length; i++) stampers[i] = NONE;
        }

        int stamper(int press, int face) {
            if (!below(press, PRESSES) || !below(face, FACES)) return NONE;
            return stampers[press * FACES + face];
        }

        boolean empty(int press) {
            return stamper(press, 0) == NONE;
        }

        boolean hold(int metal) {
            for (int i = 0; i < stampers.length; i++) {
                if (stampers[i] == metal) return true;
            }
            return false;
        }

        void load(int press, int a, int b) {
            if (!below(press, PRESSES)) return;
            stampers[press * FACES] = a;
            stampers[press * FACES + 1] = b;
        }

        void shift(int press, int toX, int toY) {
            if (!below(press, PRESSES)) return;
            x[press] = toX;
            y[press] = toY;
        }

        long mix(long h) {
            for (int p = 0; p < PRESSES; p++) {
                h = 31 * h + stamper(p, 0);
                h = 31 * h + stamper(p, 1);
                h = 31 * h + x[p];
                h = 31 * h + y[p];
            }
            return h;
        }
    }

    /** All runs that were pressed. A face of all of them is numbered 2 times the run, and the face. */
    private static final class Runs {
        final int[] press = new int[RUNS_MOST];
        final int[] day = new int[RUNS_MOST];
        final int[] number = new int[RUNS_MOST];
        final int[] hot = new int[RUNS_MOST];
        final int[] stampers = new int[RUNS_MOST * FACES];
        final int[] x = new int[RUNS_MOST];
        final int[] y = new int[RUNS_MOST];
        int count = 0;

        boolean has(int r) {
            return r >= 0 && r < count && r < RUNS_MOST;
        }

        int make(Presses presses, int p, int n, boolean isHot, int on) {
            int r = count;
            if (r < 0 || r >= RUNS_MOST || !below(p, PRESSES)) return FULL;
            press[r] = p;
            day[r] = on;
            number[r] = n;
            hot[r] = isHot ? 1 : 0;
            stampers[r * FACES] = presses.stamper(p, 0);
            stampers[r * FACES + 1] = presses.stamper(p, 1);
            x[r] = presses.x[p];
            y[r] = presses.y[p];
            count = r + 1;
            return r;
        }

        int copies(int r) {
            return has(r) ? number[r] : 0;
        }

        int dayOf(int r) {
            return has(r) ? day[r] : NONE;
        }

        int stamper(int r, int face) {
            return has(r) && below(face, FACES) ? stampers[r * FACES + face] : NONE;
        }

        boolean uses(int r, int metal) {
            return stamper(r, 0) == metal || stamper(r, 1) == metal;
        }

        int wear(int metal) {
            int sum = 0;
            for (int r = 0; r < count; r++) {
                if (uses(r, metal)) sum += number[r] * (1 + hot[r]);
            }
            return sum;
        }

        int numberOf(int metal) {
            int sum = 0;
            for (int r = 0; r < count; r++) {
                if (uses(r, metal)) sum++;
            }
            return sum;
        }

        int copiesOf(int metal) {
            int sum = 0;
            for (int r = 0; r < count; r++) {
                if (uses(r, metal)) sum += number[r];
            }
            return sum;
        }

        int fact(int r, int what) {
            if (!has(r)) return NONE;
            switch (what) {
                case 0: return press[r];
                case 1: return day[r];
                case 2: return number[r];
                case 3: return hot[r];
                case 4: return stamper(r, 0);
                default: return stamper(r, 1);
            }
        }

        int swishAt(int r, int turn) {
            if (!has(r)) return 0;
            // A size has no sign, so turns 2 and 3 of four are as 0 and 1.
            int along = turn % 2 == 0 ? x[r] : y[r];
            return Math.abs(along) * (1000 - turn) / 1000;
        }

        /** A bit for each face of each run. */
        long allFaces() {
            return (1L << FACES * count) - 1;
        }

        int copiesOn(long faces) {
            int sum = 0;
            for (int r = 0; r < count; r++) {
                if ((faces >> FACES * r & 3L) != 0) sum += number[r];
            }
            return sum;
        }
    }

    /** Rules as told; the items of each as one value for each thing that a rule can be about. */
    private static final class Rules {
        static final int WEAR = 16, THINGS = 33, UNSAID = -1;

        final int[] toldOn = new int[RULES_MOST];
        final int[] from = new int[RULES_MOST];
        final int[] values = new int[RULES_MOST * THINGS];
        private final int[] draft = new int[THINGS];
        private final int[] signs = new int[TEXT_MOST];
        int count = 0;
        private int size = 0;
        private int place = 0;
        private boolean sound = true;

        static int growing(int a, int b) {
            return a * KINDS + b;
        }

        static int paying(int land) {
            return WEAR + 1 + land;
        }

        static int selling(int land) {
            return WEAR + 1 + LANDS + land;
        }

        /** Below 0: there is no such thing. */
        static int thing(int what, int a, int b) {
            switch (what) {
                case 0: return below(a, KINDS) && below(b, KINDS) ? growing(a, b) : UNSAID;
                case 1: return WEAR;
                case 2: return below(a, LANDS) ? paying(a) : UNSAID;
                case 3: return below(a, LANDS) ? selling(a) : UNSAID;
                default: return UNSAID;
            }
        }

        private static int unruled(int thing) {
            if (thing == growing(LACQUER, MASTER)) return 1;
            if (thing == growing(MASTER, MOTHER)) return 6;
            if (thing == growing(MOTHER, STAMPER)) return 9;
            if (thing == WEAR) return 1000;
            return thing >= selling(0) ? 1 : 0;
        }

        int ruleFor(int thing, int day, int known) {
            int best = NONE;
            int latest = -1;
            for (int r = 0; r < count; r++) {
                boolean holds = toldOn[r] <= known && from[r] <= day && value(r, thing) != UNSAID;
                if (holds && from[r] >= latest) {
                    latest = from[r];
                    best = r;
                }
            }
            return best;
        }

        int inForce(int thing, int day, int known) {
            int r = ruleFor(thing, day, known);
            return r == NONE ? unruled(thing) : value(r, thing);
        }

        private int value(int r, int thing) {
            return below(r, RULES_MOST) && below(thing, THINGS) ? values[r * THINGS + thing] : UNSAID;
        }

        /** Keeps what the latest read() found. */
        int make(int day, int fromDay) {
            int r = count;
            if (r < 0 || r >= RULES_MOST) return FULL;
            toldOn[r] = day;
            from[r] = fromDay;
            for (int i = 0; i < THINGS; i++) values[r * THINGS + i] = draft[i];
            count = r + 1;
            return r;
        }

        /** Reads a text into the draft: its fault, or NONE. */
        int read(Shelf texts, int t) {
            size = Math.min(texts.size(t), TEXT_MOST);
            for (int i = 0; i < size; i++) signs[i] = texts.at(t, i);
            for (int i = 0; i < THINGS; i++) draft[i] = UNSAID;
            place = 0;
            sound = true;
            for (int step = 0; step < TEXT_MOST && sound && place < size; step++) readItem();
            return sound ? NONE : place;
        }

        /** An item or a blank; where it can't go on the place stays, for it is the fault. */
        private void readItem() {
            int sign = below(place, size) ? signs[place] : BLANK;
            switch (sign) {
                case BLANK: place++; break;
                case 'G': readGrowth(); break;
                case 'W': readWear(); break;
                case 'P': readPence(); break;
                case 'N': readLand(0); break;
                case 'Y': readLand(1); break;
                default: sound = false;
            }
        }

        private void readGrowth() {
            place++;
            int a = digits(1, KINDS);
            int b = digits(1, KINDS);
            int n = digits(2, 10);
            note(growing(a, b), n);
        }

        private void readWear() {
            place++;
            int n = digits(5, 10);
            note(WEAR, n);
        }

        private void readPence() {
            place++;
            int land = digits(1, LANDS);
            int n = digits(4, 10);
            note(paying(land), n);
        }

        private void readLand(int may) {
            place++;
            int land = digits(1, LANDS);
            note(selling(land), may);
        }

        private void note(int thing, int n) {
            if (sound && below(thing, THINGS)) draft[thing] = n;
        }

        /** A number of so many digits at most, each below a bound. */
        private int digits(int most, int bound) {
            int n = 0;
            int read = 0;
            for (; sound && read < most && below(place, size); read++) {
                int digit = signs[place] - '0';
                if (!below(digit, bound)) break;
                n = 10 * n + digit;
                place++;
            }
            if (read == 0) sound = false;
            return n;
        }

        long mix(long h, int today) {
            for (int r = 0; r < count; r++) {
                h = 31 * h + toldOn[r];
                h = 31 * h + from[r];
            }
            h = 31 * h + inForce(WEAR, today, today);
            for (int land = 0; land < LANDS; land++) {
                h = 31 * h + inForce(paying(land), today, today);
                h = 31 * h + inForce(selling(land), today, today);
            }
            return h;
        }
    }

    /** What was told of clicks. */
    private static final class Reports {
        final int[] run = new int[REPORTS_MOST];
        final int[] face = new int[REPORTS_MOST];
        final int[] turn = new int[REPORTS_MOST];
        final boolean[] heard = new boolean[REPORTS_MOST];
        int count = 0;

        int make(int r, int f, int t, boolean isHeard) {
            int i = count;
            if (i < 0 || i >= REPORTS_MOST) return FULL;
            run[i] = r;
            face[i] = f;
            turn[i] = t;
            heard[i] = isHeard;
            count = i + 1;
            return count;
        }

        long faceBit(int i) {
            return below(i, REPORTS_MOST) ? 1L << FACES * run[i] + face[i] : 0L;
        }

        boolean tells(int i, int t, boolean isHeard) {
            return below(i, count) && turn[i] == t && heard[i] == isHeard;
        }

        /** The faces of which a turn is told so, a bit for each. */
        long faces(int t, boolean isHeard) {
            long faces = 0;
            for (int i = 0; i < count; i++) {
                if (tells(i, t, isHeard)) faces |= faceBit(i);
            }
            return faces;
        }

        long mix(long h) {
            for (int i = 0; i < count; i++) {
                h = 31 * h + run[i];
                h = 31 * h + face[i];
                h = 31 * h + turn[i];
                h = 31 * h + (heard[i] ? 1 : 0);
            }
            return h;
        }
    }

    /** All places in order, each with the faces that are on it, a bit for each. */
    private static final class Places {
        final int[] metal = new int[PLACES_MOST];
        final int[] day = new int[PLACES_MOST];
        final int[] run = new int[PLACES_MOST];
        final int[] face = new int[PLACES_MOST];
        final long[] cover = new long[PLACES_MOST];
        private final int[] first = new int[METALS_MOST + 1];
        int count = 0;

        void gather(Metals metals, Runs runs) {
            count = 0;
            for (int m = 0; m < metals.count; m++) {
                first[m] = count;
                gatherDays(metals, runs, m);
                first[m + 1] = count;
            }
            for (int r = 0; r < runs.count; r++) {
                for (int f = 0; f < FACES; f++) coverMetals(metals, runs, r, f);
            }
            for (int r = 0; r < runs.count; r++) {
                for (int f = 0; f < FACES; f++) add(NONE, runs.dayOf(r), r, f);
            }
        }

        private void gatherDays(Metals metals, Runs runs, int m) {
            for (int x = 0; x < metals.count; x++) {
                if (metals.fatherOf(x) == m) addDay(m, metals.bornOn(x));
            }
            for (int r = 0; r < runs.count; r++) {
                if (runs.uses(r, m)) addDay(m, runs.dayOf(r));
            }
        }

        /** Puts a metal's day among its days, the latest ahead, unless it is there. */
        private void addDay(int m, int d) {
            int i = count;
            for (int p = first[m]; p < count; p++) {
                if (day[p] == d) return;
            }
            add(m, d, NONE, NONE);
            for (; i > first[m] && i < PLACES_MOST && day[i - 1] < d; i--) {
                day[i] = day[i - 1];
                day[i - 1] = d;
            }
        }

        private void add(int m, int d, int r, int f) {
            if (count < 0 || count >= PLACES_MOST) return;
            metal[count] = m;
            day[count] = d;
            run[count] = r;
            face[count] = f;
            cover[count] = r == NONE ? 0L : 1L << FACES * r + f;
            count++;
        }

        private void coverMetals(Metals metals, Runs runs, int r, int f) {
            int made = runs.dayOf(r);
            int m = runs.stamper(r, f);
            for (int step = 0; step < METALS_MOST && metals.has(m); step++) {
                for (int p = first[m]; p < first[m + 1]; p++) {
                    if (day[p] <= made) cover[p] |= 1L << FACES * r + f;
                }
                made = metals.bornOn(m);
                m = metals.fatherOf(m);
            }
        }
    }

    /** Finds all sets with the fewest places that explain a turn, and keeps the cause that was told last. */
    private static final class Search {
        final Places places = new Places();
        private final long[] quiet = new long[PLACES_MOST];
        private final int[] useful = new int[PLACES_MOST];
        private final int[] chosen = new int[CAUSE_MOST];
        private final int[] onRivals = new int[RUNS_MOST * FACES];
        private final int[] cause = new int[CAUSE_MOST * PLACE_FACTS];
        private int causeSize = 0;
        private int usefuls = 0;
        private int misses = 0;
        private long need = 0;
        private long tallied = 0;
        private long best = 0;
        int size = 0;
        int rivals = 0;

        /** Counts for each of the faces to tally the rivals that are on it, too. */
        boolean explain(Reports reports, int turn, int mayMiss, long toTally) {
            need = reports.faces(turn, true);
            misses = mayMiss;
            tallied = toTally;
            for (int f = 0; f < onRivals.length; f++) onRivals[f] = 0;
            hearQuiet(reports, turn);
            pickUseful();
            rivals = 0;
            for (int fewest = 0; fewest <= CAUSE_MOST && rivals == 0; fewest++) {
                size = fewest;
                extend(0, 0L, 0L);
            }
            return rivals > 0;
        }

        /** For each place a bit for each report that tells not heard of a face that is on it. */
        private void hearQuiet(Reports reports, int turn) {
            for (int p = 0; p < places.count; p++) quiet[p] = 0;
            for (int i = 0; i < reports.count; i++) {
                if (!reports.tells(i, turn, false)) continue;
                long face = reports.faceBit(i);
                for (int p = 0; p < places.count; p++) {
                    if ((places.cover[p] & face) != 0) quiet[p] |= 1L << i;
                }
            }
        }

        /** A set with a place that covers nothing wanted is not among those with the fewest. */
        private void pickUseful() {
            usefuls = 0;
            for (int p = 0; p < places.count; p++) {
                if ((places.cover[p] & need) != 0 && Long.bitCount(quiet[p]) <= misses) useful[usefuls++] = p;
            }
        }

        /**
         * Takes one place more, for the first face that is not covered yet. Two places have no
         * face in common, or one has all that the other has; so in a set without a place too many each face
         * is on one place alone, and each set is found once.
         */
        private void extend(int depth, long covered, long missed) {
            long open = need & ~covered;
            if (depth >= size || depth >= CAUSE_MOST) {
                if (open == 0) take(covered, missed);
                return;
            }
            long wanted = open & -open;
            for (int u = 0; u < usefuls; u++) {
                int p = useful[u];
                if ((places.cover[p] & wanted) == 0) continue;
                if (Long.bitCount(missed | quiet[p]) > misses) continue;
                chosen[depth] = p;
                extend(depth + 1, covered | places.cover[p], missed | quiet[p]);
            }
        }

        private void take(long covered, long missed) {
            long rank = rank(missed);
            if (rivals == 0 || rank < best) best = rank;
            rivals++;
            long left = covered & tallied;
            for (int f = 0; f < onRivals.length && left != 0; f++) {
                if ((left & 1L) != 0) onRivals[f]++;
                left >>>= 1;
            }
        }

        /** The fewer misses, then the earlier places, the less it is: 8 bits for each place. */
        private long rank(long missed) {
            long rank = Long.bitCount(missed);
            int last = -1;
            for (int i = 0; i < CAUSE_MOST; i++) {
                last = i < size ? nextChosen(last) : 0;
                rank = rank << 8 | last;
            }
            return rank;
        }

        private int nextChosen(int last) {
            int next = PLACES_MOST;
            for (int i = 0; i < size && i < CAUSE_MOST; i++) {
                if (chosen[i] > last && chosen[i] < next) next = chosen[i];
            }
            return next;
        }

        int causeMisses() {
            return (int) (best >> 8 * CAUSE_MOST);
        }

        void keepCause(Metals metals, Runs runs, int turn) {
            causeSize = size;
            for (int i = 0; i < size && i < CAUSE_MOST; i++) {
                int p = (int) (best >> 8 * (CAUSE_MOST - 1 - i) & 255L);
                if (!below(p, PLACES_MOST)) return;
                int at = i * PLACE_FACTS;
                cause[at] = places.metal[p];
                cause[at + 1] = places.day[p];
                cause[at + 2] = places.run[p];
                cause[at + 3] = places.face[p];
                cause[at + 4] = metals.turnOn(places.metal[p], turn);
                cause[at + 5] = runs.copiesOn(places.cover[p]);
            }
        }

        int causeFact(int i, int what) {
            if (!below(i, causeSize) || i >= CAUSE_MOST || !below(what, PLACE_FACTS)) return NONE;
            return cause[i * PLACE_FACTS + what];
        }

        /** Of the faces that were tallied the one that parts the rivals most evenly; NONE: there is none. */
        int evenest() {
            int next = NONE;
            for (int f = 0; f < onRivals.length; f++) {
                if ((tallied >>> f & 1L) == 0) continue;
                if (next == NONE || greaterPart(f) < greaterPart(next)) next = f;
            }
            return next;
        }

        int greaterPart(int f) {
            return below(f, onRivals.length) ? Math.max(onRivals[f], rivals - onRivals[f]) : 0;
        }
    }

    /** Sales and what was sent back (copies below 0). */
    private static final class Sales {
        final int[] run = new int[SALES_MOST];
        final int[] copies = new int[SALES_MOST];
        final int[] land = new int[SALES_MOST];
        final int[] day = new int[SALES_MOST];
        int count = 0;

        void make(int r, int n, int l, int on) {
            int s = count;
            if (s < 0 || s >= SALES_MOST) return;
            run[s] = r;
            copies[s] = n;
            land[s] = l;
            day[s] = on;
            count = s + 1;
        }

        int kept(int r) {
            int sum = 0;
            for (int s = 0; s < count; s++) {
                if (run[s] == r) sum += copies[s];
            }
            return sum;
        }

        int keptIn(int r, int l) {
            int sum = 0;
            for (int s = 0; s < count; s++) {
                if (run[s] == r && land[s] == l) sum += copies[s];
            }
            return sum;
        }

        long mix(long h) {
            for (int s = 0; s < count; s++) {
                h = 31 * h + run[s];
                h = 31 * h + copies[s];
                h = 31 * h + land[s];
                h = 31 * h + day[s];
            }
            return h;
        }
    }

    /** Orders, and the plan that was made last. Sets of orders are bits. */
    private static final class Orders {
        static final int SETS = 512;

        final int[] copies = new int[ORDERS_MOST];
        final int[] day = new int[ORDERS_MOST];
        private final int[] byDay = new int[ORDERS_MOST];
        private final int[] takes = new int[ORDERS_MOST];
        private final int[] row = new int[ORDERS_MOST];
        private final int[] load = new int[PLAN_PRESSES];
        private final byte[] pressesFor = new byte[SETS];
        int count = 0;
        int met = 0;

        Orders() {
            for (int i = 0; i < ORDERS_MOST; i++) row[i] = NONE;
        }

        boolean has(int order) {
            return order >= 0 && order < count && order < ORDERS_MOST;
        }

        int make(int n, int by) {
            int i = count;
            if (i < 0 || i >= ORDERS_MOST) return FULL;
            copies[i] = n;
            day[i] = by;
            count = i + 1;
            return i;
        }

        int pressOf(int order) {
            return has(order) ? row[order] : NONE;
        }

        void choose(int presses, int rate, int today) {
            sortByDay();
            for (int i = 0; i < count; i++) takes[i] = rate > 0 ? (copies[i] + rate - 1) / rate : 0;
            countPresses(today);
            met = 0;
            for (int set = 1; set < 1 << count && set < SETS; set++) {
                if (pressesFor[set] <= presses && copiesIn(set) > copiesIn(met)) met = set;
            }
            for (int i = 0; i < ORDERS_MOST; i++) row[i] = NONE;
            for (int p = 0; p < PLAN_PRESSES; p++) load[p] = 0;
            assign(0, presses);
        }

        private void sortByDay() {
            for (int i = 0; i < count; i++) {
                int j = i;
                for (; j > 0 && day[byDay[j - 1]] > day[i]; j--) byDay[j] = byDay[j - 1];
                byDay[j] = i;
            }
        }

        private int copiesIn(int set) {
            int sum = 0;
            for (int i = 0; i < count; i++) {
                if ((set >> i & 1) != 0) sum += copies[i];
            }
            return sum;
        }

        /** For each set by how many presses it can be met. */
        private void countPresses(int today) {
            for (int set = 1; set < 1 << count && set < SETS; set++) {
                pressesFor[set] = (byte) (onePressMeets(set, today) ? 1 : fewestPresses(set));
            }
        }

        /** One press meets all that it can meet if it makes first what is due first. */
        private boolean onePressMeets(int set, int today) {
            int done = today;
            for (int k = 0; k < count; k++) {
                int i = byDay[k];
                if ((set >> i & 1) == 0) continue;
                done += takes[i];
                if (done > day[i]) return false;
            }
            return true;
        }

        private int fewestPresses(int set) {
            int fewest = PLAN_PRESSES + 1;
            int lowest = set & -set;
            for (int part = (set - 1) & set; part > 0; part = (part - 1) & set) {
                if ((part & lowest) != 0 && pressesFor[part] == 1) {
                    fewest = Math.min(fewest, 1 + pressesFor[set ^ part]);
                }
            }
            return fewest;
        }

        /** Tries presses for orders from one on, the first press ahead: so the first row comes first. */
        private boolean assign(int i, int presses) {
            if (i >= count || i >= ORDERS_MOST) return true;
            if ((met >> i & 1) == 0) return assign(i + 1, presses);
            for (int p = 0; p < presses && p < PLAN_PRESSES; p++) {
                int alone = load[p];
                if (pressesFor[alone | 1 << i] != 1) continue;
                load[p] = alone | 1 << i;
                row[i] = p;
                if (assign(i + 1, presses)) return true;
                load[p] = alone;
            }
            return false;
        }

        long mix(long h) {
            for (int i = 0; i < count; i++) {
                h = 31 * h + copies[i];
                h = 31 * h + day[i];
            }
            return h;
        }
    }
}
