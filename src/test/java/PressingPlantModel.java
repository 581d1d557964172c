import java.util.ArrayList;
import java.util.Arrays;
import java.util.HashSet;
import java.util.List;
import java.util.Random;
import java.util.Set;
import java.util.TreeSet;

/**
 * Random runs of calls, each answered by a second, slow program too, which was written from the document
 * alone: it tries every set of places and every row of presses.
 */
public final class PressingPlantModel {
    private static final int BAD = -1, FULL = -2, FINDING = -3, STATE = -4, NONE = -9;

    private record Metal(int kind, int side, int father, int hand, int day) { }
    private record Change(int metal, int how, int day) { }
    private record Run(int press, int day, int copies, boolean hot, int[] stampers, int x, int y) { }
    private record Item(String thing, int value) { }
    private record Rule(int told, int from, List<Item> items) { }
    private record Report(int run, int face, int turn, boolean heard) { }
    private record Sale(int run, int copies, int land, int day) { }
    private record Order(int copies, int day) { }
    private record Place(int metal, int day, int run, int face, Set<Integer> on) { }
    private record Told(int[][] facts) { }

    /** The second program. */
    private static final class Model {
        int today = 0, asked = 0, finding = 0;
        long pence = 0, upper = 0, lower = 1;
        final int[] findings = new int[6];
        final int[][] rows = new int[6][];
        final byte[][] texts = new byte[4][];
        final List<Metal> metals = new ArrayList<>();
        final List<Change> changes = new ArrayList<>();
        final int[][] presses = {null, null, null, null, null, null};
        final int[][] offs = new int[6][2];
        final List<Run> runs = new ArrayList<>();
        final List<Rule> rules = new ArrayList<>();
        final List<Report> reports = new ArrayList<>();
        final List<Sale> sales = new ArrayList<>();
        final List<Order> orders = new ArrayList<>();
        Told cause = new Told(new int[0][]);
        int[] planned = new int[0];

        int find(int f) { finding = f; findings[f]++; return FINDING; }
        static boolean in(int v, int from, int to) { return from <= v && v <= to; }
        static boolean day(int v) { return in(v, 0, 999); }
        boolean metal(int m) { return in(m, 0, metals.size() - 1); }
        boolean aRun(int r) { return in(r, 0, runs.size() - 1); }

        int row(int r, int n) {
            if (!in(r, 0, 5) || n > 24) return BAD;
            if (n < 0) return find(5);
            rows[r] = new int[n];
            return n;
        }

        int lay(int r, int i, int v) {
            if (!in(r, 0, 5)) return BAD;
            if (rows[r] == null) return find(1);
            if (!in(i, 0, rows[r].length - 1)) return find(2);
            asked = rows[r][i];
            rows[r][i] = v;
            return 1;
        }

        int tear(int r) {
            if (!in(r, 0, 5)) return BAD;
            if (rows[r] == null) return find(1);
            rows[r] = null;
            return 1;
        }

        int copy(int r, int i, int to, int j, int n) {
            if (!in(r, 0, 5) || !in(to, 0, 5)) return BAD;
            if (n < 0) return find(5);
            if (rows[r] == null || rows[to] == null) return find(1);
            if (i < 0 || j < 0 || (long) i + n > rows[r].length || (long) j + n > rows[to].length) return find(2);
            int[] taken = Arrays.copyOfRange(rows[r], i, i + n);
            for (int k = 0; k < n; k++) rows[to][j + k] = taken[k];
            return 1;
        }

        int text(int t, int n) {
            if (!in(t, 0, 3) || n > 48) return BAD;
            if (n < 0) return find(5);
            texts[t] = new byte[n];
            Arrays.fill(texts[t], (byte) 32);
            return n;
        }

        int put(int t, int i, int v) {
            if (!in(t, 0, 3)) return BAD;
            if (texts[t] == null) return find(1);
            if (!in(i, 0, texts[t].length - 1)) return find(2);
            int was = texts[t][i];
            texts[t][i] = (byte) v;
            return was + 1000;
        }

        int burn(int t) {
            if (!in(t, 0, 3)) return BAD;
            if (texts[t] == null) return find(1);
            texts[t] = null;
            return 1;
        }

        private static final String WHOLE = "( |G[0-3][0-3][0-9]{1,2}|W[0-9]{1,5}|P[0-7][0-9]{1,4}|[NY][0-7])*";

        /** A text goes on if something can be put behind it that makes it whole. */
        static boolean goesOn(String text) {
            for (String more : new String[] {"", "0", "00", "000"}) {
                if ((text + more).matches(WHOLE)) return true;
            }
            return false;
        }

        String asString(int t) {
            StringBuilder b = new StringBuilder();
            for (byte v : texts[t]) b.append((char) (v & 255));
            return b.toString();
        }

        int faultOf(int t) {
            String text = asString(t);
            for (int i = 0; i < text.length(); i++) {
                if (!goesOn(text.substring(0, i + 1))) return i;
            }
            return text.matches(WHOLE) ? NONE : text.length();
        }

        int fault(int t) {
            if (!in(t, 0, 3)) return BAD;
            if (texts[t] == null) return find(1);
            return faultOf(t);
        }

        int later(int n) {
            if (n < 0 || (long) today + n > 999) return BAD;
            return today += n;
        }

        int lacquer(int side, int hand) {
            if (!in(side, 0, 19) || !in(hand, 0, 9)) return BAD;
            if (metals.size() == 40) return FULL;
            for (Metal m : metals) if (m.kind == 0 && m.side == side) return STATE;
            metals.add(new Metal(0, side, NONE, hand, today));
            return metals.size() - 1;
        }

        int how(int metal, int day) {
            if (metals.get(metal).day > day) return NONE;
            int how = 0;
            for (Change c : changes) if (c.metal == metal && c.day <= day) how = c.how;
            return how;
        }

        boolean pressed(int metal) {
            for (int[] p : presses) if (p != null && (p[0] == metal || p[1] == metal)) return true;
            return false;
        }

        int grow(int metal, int kind, int hand) {
            if (!metal(metal) || !in(kind, 1, 3) || !in(hand, 0, 9)) return BAD;
            if (metals.size() == 40) return FULL;
            int were = 0;
            for (Metal m : metals) if (m.father == metal && m.kind == kind) were++;
            int may = forced("G" + metals.get(metal).kind + kind, today, today, false);
            if (how(metal, 999) != 0 || pressed(metal) || were >= may) return STATE;
            metals.add(new Metal(kind, metals.get(metal).side, metal, hand, today));
            return metals.size() - 1;
        }

        int state(int metal, int how) {
            if (!metal(metal) || !in(how, 0, 3)) return BAD;
            int was = how(metal, 999);
            if (pressed(metal) || was == 1) return STATE;
            if (changes.size() == 120) return FULL;
            changes.add(new Change(metal, how, today));
            return was;
        }

        int children(int metal) {
            int n = 0;
            for (Metal m : metals) if (m.father == metal) n++;
            return n;
        }

        int toldOf(int metal, int what) {
            Metal m = metals.get(metal);
            return new int[] {m.kind, m.side, m.father, m.hand, m.day, how(metal, 999), children(metal)}[what];
        }

        int told(int metal, int what) {
            if (!metal(metal) || !in(what, 0, 6)) return BAD;
            asked = toldOf(metal, what);
            return 1;
        }

        int under(int metal) {
            int n = 0;
            for (int m = 0; m < metals.size(); m++) if (metals.get(m).father == metal) n += 1 + under(m);
            return n;
        }

        int wear(int metal) {
            int n = 0;
            for (Run r : runs) if (r.stampers[0] == metal || r.stampers[1] == metal) n += r.hot ? 2 * r.copies : r.copies;
            return n;
        }

        int mark(int metal, int kind) {
            if (!metal(metal) || !in(kind, 0, 3)) return BAD;
            if (metals.get(metal).kind != kind) return find(3);
            if (kind == 0) return under(metal);
            if (kind == 3) return wear(metal);
            int n = 0;
            for (int m = 0; m < metals.size(); m++) {
                if (metals.get(m).father == metal && metals.get(m).kind == kind + 1 && how(m, 999) == 0) n++;
            }
            return n;
        }

        int asOf(int metal, int day) { return !metal(metal) || !day(day) ? BAD : how(metal, day); }

        int lead(int metal) {
            if (!metal(metal)) return BAD;
            int n = 0;
            asked = metal;
            while (metals.get(asked).father != NONE) {
                asked = metals.get(asked).father;
                n++;
            }
            return n;
        }

        int marry(int press, int a, int b) {
            if (!in(press, 0, 5) || !metal(a) || !metal(b) || a == b) return BAD;
            if (metals.get(a).kind != 3 || metals.get(b).kind != 3) return find(3);
            if (presses[press] != null || pressed(a) || pressed(b) || how(a, 999) != 0 || how(b, 999) != 0) return STATE;
            presses[press] = new int[] {a, b};
            return 1;
        }

        int part(int press) {
            if (!in(press, 0, 5)) return BAD;
            if (presses[press] == null) return find(1);
            int first = presses[press][0];
            presses[press] = null;
            return first;
        }

        int held(int press, int face) {
            if (!in(press, 0, 5) || !in(face, 0, 1)) return BAD;
            return presses[press] == null ? find(1) : presses[press][face];
        }

        int off(int press, int x, int y) {
            if (!in(press, 0, 5) || !in(x, -8, 8) || !in(y, -8, 8)) return BAD;
            offs[press] = new int[] {x, y};
            return 1;
        }

        int run(int press, int n, boolean hot) {
            if (!in(press, 0, 5) || !in(n, 1, 10000)) return BAD;
            if (presses[press] == null) return find(1);
            if (runs.size() == 30) return FULL;
            int may = forced("W", today, today, false);
            for (int s : presses[press]) if (wear(s) + (hot ? 2 * n : n) > may) return STATE;
            runs.add(new Run(press, today, n, hot, presses[press].clone(), offs[press][0], offs[press][1]));
            return runs.size() - 1;
        }

        int net(int run, int land) {
            int n = 0;
            for (Sale s : sales) if (s.run == run && (land < 0 || s.land == land)) n += s.copies;
            return n;
        }

        int runToldOf(int r, int what) {
            Run x = runs.get(r);
            return new int[] {x.press, x.day, x.copies, x.hot ? 1 : 0, x.stampers[0], x.stampers[1], net(r, -1)}[what];
        }

        int runTold(int r, int what) {
            if (!aRun(r) || !in(what, 0, 6)) return BAD;
            asked = runToldOf(r, what);
            return 1;
        }

        int mean(int metal) {
            if (!metal(metal)) return BAD;
            if (metals.get(metal).kind != 3) return find(3);
            int n = 0, sum = 0;
            for (Run r : runs) {
                if (r.stampers[0] == metal || r.stampers[1] == metal) {
                    n++;
                    sum += r.copies;
                }
            }
            if (n == 0) return find(4);
            asked = sum / n;
            return 1;
        }

        static List<Item> items(String text) {
            List<Item> items = new ArrayList<>();
            java.util.regex.Matcher m = java.util.regex.Pattern
                .compile("(G[0-3][0-3])([0-9]{1,2})|(W)([0-9]{1,5})|(P[0-7])([0-9]{1,4})|([NY])([0-7])").matcher(text);
            while (m.find()) {
                if (m.group(1) != null) items.add(new Item(m.group(1), Integer.parseInt(m.group(2))));
                else if (m.group(3) != null) items.add(new Item(m.group(3), Integer.parseInt(m.group(4))));
                else if (m.group(5) != null) items.add(new Item(m.group(5), Integer.parseInt(m.group(6))));
                else items.add(new Item("Y" + m.group(8), m.group(7).equals("Y") ? 1 : 0));
            }
            return items;
        }

        int rule(int t, int from) {
            if (!in(t, 0, 3) || !day(from)) return BAD;
            if (rules.size() == 24) return FULL;
            if (texts[t] == null) return find(1);
            if (faultOf(t) != NONE) return STATE;
            rules.add(new Rule(today, from, items(asString(t))));
            return rules.size() - 1;
        }

        int forced(String thing, int day, int known, boolean which) {
            int best = NONE, value = 0;
            for (int r = 0; r < rules.size(); r++) {
                Rule x = rules.get(r);
                if (x.told > known || x.from > day) continue;
                if (best != NONE && rules.get(best).from > x.from) continue;
                for (Item i : x.items) {
                    if (i.thing.equals(thing)) {
                        best = r;
                        value = i.value;
                    }
                }
            }
            if (which) return best;
            if (best != NONE) return value;
            return switch (thing) {
                case "G01" -> 1;
                case "G12" -> 6;
                case "G23" -> 9;
                case "W" -> 1000;
                default -> thing.startsWith("Y") ? 1 : 0;
            };
        }

        int ask(int what, int a, int b, int day, int known, boolean which) {
            if (!in(what, 0, 3) || !day(day) || !day(known)) return BAD;
            if (what == 0 && (!in(a, 0, 3) || !in(b, 0, 3))) return BAD;
            if (what >= 2 && !in(a, 0, 7)) return BAD;
            String thing = what == 0 ? "G" + a + b : what == 1 ? "W" : (what == 2 ? "P" : "Y") + a;
            return forced(thing, day, known, which);
        }

        int report(int r, int face, int turn, boolean heard) {
            if (!aRun(r) || !in(face, 0, 1) || !in(turn, 0, 999)) return BAD;
            if (reports.size() == 60) return FULL;
            reports.add(new Report(r, face, turn, heard));
            return reports.size();
        }

        /** All faces that are made of a metal on a day or later. */
        Set<Integer> madeOf(int metal, int from) {
            Set<Integer> faces = new HashSet<>();
            for (int m = 0; m < metals.size(); m++) {
                if (metals.get(m).father == metal && metals.get(m).day >= from) faces.addAll(madeOf(m, 0));
            }
            for (int r = 0; r < runs.size(); r++) {
                for (int f = 0; f < 2; f++) {
                    if (runs.get(r).stampers[f] == metal && runs.get(r).day >= from) faces.add(2 * r + f);
                }
            }
            return faces;
        }

        List<Place> places() {
            List<Place> places = new ArrayList<>();
            for (int m = 0; m < metals.size(); m++) {
                TreeSet<Integer> days = new TreeSet<>();
                for (Metal x : metals) if (x.father == m) days.add(x.day);
                for (Run r : runs) if (r.stampers[0] == m || r.stampers[1] == m) days.add(r.day);
                for (int d : days.descendingSet()) places.add(new Place(m, d, NONE, NONE, madeOf(m, d)));
            }
            for (int r = 0; r < runs.size(); r++) {
                for (int f = 0; f < 2; f++) places.add(new Place(NONE, runs.get(r).day, r, f, Set.of(2 * r + f)));
            }
            return places;
        }

        int missesOf(Set<Integer> on, int turn) {
            int n = 0;
            for (Report r : reports) if (r.turn == turn && !r.heard && on.contains(2 * r.run + r.face)) n++;
            return n;
        }

        /** All sets with the fewest places that explain it, in order; null: there are none. */
        List<List<Place>> explaining(int turn, int misses) {
            Set<Integer> heard = new HashSet<>();
            for (Report r : reports) if (r.turn == turn && r.heard) heard.add(2 * r.run + r.face);
            List<Place> places = places();
            for (int size = 0; size <= 3; size++) {
                List<List<Place>> found = new ArrayList<>();
                choose(places, 0, size, new ArrayList<>(), heard, turn, misses, found);
                if (!found.isEmpty()) return found;
            }
            return null;
        }

        private void choose(List<Place> places, int from, int size, List<Place> taken, Set<Integer> heard,
                int turn, int misses, List<List<Place>> found) {
            if (size == 0) {
                Set<Integer> on = onSet(taken);
                if (on.containsAll(heard) && missesOf(on, turn) <= misses) found.add(new ArrayList<>(taken));
                return;
            }
            for (int i = from; i < places.size(); i++) {
                taken.add(places.get(i));
                choose(places, i + 1, size - 1, taken, heard, turn, misses, found);
                taken.remove(taken.size() - 1);
            }
        }

        static Set<Integer> onSet(List<Place> set) {
            Set<Integer> on = new HashSet<>();
            for (Place p : set) on.addAll(p.on);
            return on;
        }

        int cause(int turn, int misses) {
            if (!in(turn, 0, 999) || !in(misses, 0, 60)) return BAD;
            List<List<Place>> sets = explaining(turn, misses);
            if (sets == null) return NONE;
            List<Place> best = null;
            for (List<Place> set : sets) {
                if (best == null || missesOf(onSet(set), turn) < missesOf(onSet(best), turn)) best = set;
            }
            asked = missesOf(onSet(best), turn);
            cause = new Told(new int[best.size()][]);
            for (int i = 0; i < best.size(); i++) {
                Place p = best.get(i);
                boolean backward = p.metal != NONE && metals.get(p.metal).kind % 2 == 1;
                Set<Integer> on = new HashSet<>();
                for (int f : p.on) on.add(f / 2);
                int copies = 0;
                for (int r : on) copies += runs.get(r).copies;
                cause.facts[i] = new int[] {p.metal, p.day, p.run, p.face, backward ? 999 - turn : turn, copies};
            }
            return best.size();
        }

        int causeTold(int i, int what) {
            if (!in(what, 0, 5)) return BAD;
            return in(i, 0, cause.facts.length - 1) ? cause.facts[i][what] : NONE;
        }

        int rivals(int turn, int misses) {
            if (!in(turn, 0, 999) || !in(misses, 0, 60)) return BAD;
            List<List<Place>> sets = explaining(turn, misses);
            return sets == null ? NONE : sets.size();
        }

        int nextTest(int turn, int misses) {
            if (!in(turn, 0, 999) || !in(misses, 0, 60)) return BAD;
            List<List<Place>> sets = explaining(turn, misses);
            if (sets == null) return NONE;
            int best = NONE, least = 0;
            for (int f = 0; f < 2 * runs.size(); f++) {
                boolean tried = false;
                for (Report r : reports) if (r.turn == turn && 2 * r.run + r.face == f) tried = true;
                if (tried) continue;
                int on = 0;
                for (List<Place> set : sets) if (onSet(set).contains(f)) on++;
                int greater = Math.max(on, sets.size() - on);
                if (best == NONE || greater < least) {
                    best = 10 * (f / 2) + f % 2;
                    least = greater;
                }
            }
            if (best != NONE) asked = least;
            return best;
        }

        int recall(int metal, int from, int land) {
            if (!metal(metal) || !day(from) || !in(land, 0, 7)) return BAD;
            Set<Integer> on = new HashSet<>();
            for (int f : madeOf(metal, from)) on.add(f / 2);
            int n = 0;
            for (int r : on) n += net(r, land);
            return n;
        }

        int swishOf(int r, int turn) {
            int c = new int[] {1, 0, -1, 0}[turn % 4], s = new int[] {0, 1, 0, -1}[turn % 4];
            return Math.abs(c * runs.get(r).x + s * runs.get(r).y) * (1000 - turn) / 1000;
        }

        int swish(int r, int turn) { return !aRun(r) || !in(turn, 0, 999) ? BAD : swishOf(r, turn); }

        int swishRun(int turns, int amounts) {
            if (!in(turns, 0, 5) || !in(amounts, 0, 5)) return BAD;
            if (rows[turns] == null || rows[amounts] == null) return find(1);
            if (rows[turns].length != rows[amounts].length) return find(5);
            for (int t : rows[turns]) if (!in(t, 0, 999)) return find(3);
            int best = NONE;
            long least = 0;
            for (int r = runs.size() - 1; r >= 0; r--) {
                long sum = 0;
                for (int i = 0; i < rows[turns].length; i++) sum += Math.abs((long) swishOf(r, rows[turns][i]) - rows[amounts][i]);
                if (best == NONE || sum <= least) {
                    best = r;
                    least = sum;
                }
            }
            if (best != NONE) asked = (int) Math.min(least, 1000000000L);
            return best;
        }

        int sell(int r, int n, int land) {
            if (!aRun(r) || !in(n, 1, 10000) || !in(land, 0, 7)) return BAD;
            if (sales.size() == 60) return FULL;
            if (net(r, -1) + n > runs.get(r).copies || forced("Y" + land, today, today, false) == 0) return STATE;
            sales.add(new Sale(r, n, land, today));
            return runs.get(r).copies - net(r, -1);
        }

        int back(int r, int n, int land) {
            if (!aRun(r) || !in(n, 1, 10000) || !in(land, 0, 7)) return BAD;
            if (sales.size() == 60) return FULL;
            if (net(r, land) < n) return STATE;
            sales.add(new Sale(r, -n, land, today));
            return runs.get(r).copies - net(r, -1);
        }

        int times(int run, int side) {
            int n = 0;
            for (int s : runs.get(run).stampers) if (metals.get(s).side == side) n++;
            return n;
        }

        int owe(int side, int land, int from, int to) {
            if (!in(side, 0, 19) || !in(land, 0, 7) || !day(from) || !day(to) || to < from) return BAD;
            pence = 0;
            for (Sale s : sales) {
                if (s.land == land && in(s.day, from, to)) {
                    pence += (long) times(s.run, side) * s.copies * forced("P" + land, s.day, s.day, false);
                }
            }
            return 1;
        }

        int share(int side) {
            if (!in(side, 0, 19)) return BAD;
            int sold = 0, sent = 0;
            for (Sale s : sales) {
                if (times(s.run, side) == 0) continue;
                if (s.copies > 0) sold += s.copies;
                else sent += -s.copies;
            }
            if (sold == 0) return find(4);
            int d = sold;
            while (sold % d != 0 || sent % d != 0) d--;
            upper = sent / d;
            lower = sold / d;
            return 1;
        }

        int order(int n, int day) {
            if (!in(n, 1, 100000) || !day(day)) return BAD;
            if (orders.size() == 9) return FULL;
            orders.add(new Order(n, day));
            return orders.size() - 1;
        }

        /** Some one of them is made last: the others must go ahead of it. */
        boolean onePress(int set, int rate) {
            if (set == 0) return true;
            int days = 0;
            for (int i = 0; i < orders.size(); i++) {
                if ((set >> i & 1) == 1) days += orders.get(i).copies / rate + (orders.get(i).copies % rate == 0 ? 0 : 1);
            }
            for (int i = 0; i < orders.size(); i++) {
                if ((set >> i & 1) == 1 && today + days <= orders.get(i).day && onePress(set & ~(1 << i), rate)) return true;
            }
            return false;
        }

        int plan(int p, int rate) {
            if (!in(p, 1, 3) || !in(rate, 1, 10000)) return BAD;
            int n = orders.size();
            boolean[] one = new boolean[1 << n];
            for (int set = 0; set < 1 << n; set++) one[set] = onePress(set, rate);
            int[] row = new int[n];
            int[] bestRow = null;
            int best = 0;
            long bestCopies = -1;
            int all = 1;
            for (int i = 0; i < n; i++) all *= p + 1;
            for (int code = 0; code < all; code++) {
                int rest = code, set = 0;
                int[] loads = new int[p];
                long copies = 0;
                for (int i = n - 1; i >= 0; i--) {
                    row[i] = rest % (p + 1) - 1;
                    rest /= p + 1;
                    if (row[i] < 0) continue;
                    set |= 1 << i;
                    loads[row[i]] |= 1 << i;
                    copies += orders.get(i).copies;
                }
                boolean met = true;
                for (int load : loads) met &= one[load];
                if (met && (copies > bestCopies || copies == bestCopies && set < best)) {
                    best = set;
                    bestCopies = copies;
                    bestRow = row.clone();
                }
            }
            planned = new int[n];
            for (int i = 0; i < n; i++) planned[i] = bestRow[i] < 0 ? NONE : bestRow[i];
            asked = best;
            return Integer.bitCount(best);
        }

        int planned(int order) {
            if (!in(order, 0, orders.size() - 1)) return BAD;
            return order < planned.length ? planned[order] : NONE;
        }

        int guess(int side) {
            if (!in(side, 0, 19)) return BAD;
            int w = 0, v = 0;
            for (Sale s : sales) {
                if (times(s.run, side) == 0) continue;
                int ago = today - s.day;
                if (ago < 7) w += s.copies;
                else if (ago < 14) v += s.copies;
            }
            int half = w >= v ? (w - v) / 2 : -((v - w) / 2);
            return w + half < 0 ? 0 : w + half;
        }

        int cost(int side, int come, int wax, int lost) {
            if (!in(side, 0, 19) || !in(come, 0, 100000) || !in(wax, 0, 1000) || !in(lost, 0, 1000)) return BAD;
            int g = guess(side);
            pence = g > come ? (long) (g - come) * wax : (long) (come - g) * lost;
            return g > come ? 1 : g < come ? 2 : 0;
        }

        int count(int what) {
            if (!in(what, 0, 10)) return BAD;
            int there = 0, r = 0, t = 0;
            for (int m = 0; m < metals.size(); m++) if (how(m, 999) == 0) there++;
            for (int[] x : rows) if (x != null) r++;
            for (byte[] x : texts) if (x != null) t++;
            return new int[] {today, metals.size(), there, runs.size(), rules.size(), reports.size(), sales.size(),
                orders.size(), changes.size(), r, t}[what];
        }

        int findings(int f) { return in(f, 1, 5) ? findings[f] : BAD; }

        long digest() {
            List<Long> v = new ArrayList<>();
            for (int what = 0; what <= 10; what++) v.add((long) count(what));
            for (int m = 0; m < metals.size(); m++) for (int w = 0; w <= 6; w++) v.add((long) toldOf(m, w));
            for (int p = 0; p < 6; p++) {
                for (int f = 0; f < 2; f++) v.add(presses[p] == null ? NONE : (long) presses[p][f]);
                for (int f = 0; f < 2; f++) v.add((long) offs[p][f]);
            }
            for (int r = 0; r < runs.size(); r++) for (int w = 0; w <= 6; w++) v.add((long) runToldOf(r, w));
            for (Rule r : rules) {
                v.add((long) r.told);
                v.add((long) r.from);
            }
            v.add((long) forced("W", today, today, false));
            for (int l = 0; l < 8; l++) {
                v.add((long) forced("P" + l, today, today, false));
                v.add((long) forced("Y" + l, today, today, false));
            }
            for (Report r : reports) v.addAll(List.of((long) r.run, (long) r.face, (long) r.turn, r.heard ? 1L : 0L));
            for (Sale s : sales) v.addAll(List.of((long) s.run, (long) s.copies, (long) s.land, (long) s.day));
            for (Order o : orders) v.addAll(List.of((long) o.copies, (long) o.day));
            for (int[] x : rows) {
                v.add(x == null ? -1L : x.length);
                if (x != null) for (int i : x) v.add((long) i);
            }
            for (byte[] x : texts) {
                v.add(x == null ? -1L : x.length);
                if (x != null) for (byte i : x) v.add((long) i);
            }
            long h = 17;
            for (long x : v) h = 31 * h + x;
            return h;
        }
    }

    private static final Set<String> SEEN = new TreeSet<>();
    private static int wrong = 0;

    /** One run: an object of the class, the model beside it, and what was called so far. */
    private static final class Trial {
        final long seed;
        final Random random;
        final PressingPlant x = new PressingPlant();
        final Model m = new Model();
        final StringBuilder calls = new StringBuilder();
        final int places;
        final int loud;
        boolean failed = false;

        Trial(long seed) {
            this.seed = seed;
            this.random = new Random(seed);
            this.loud = 1 + random.nextInt(6);
            // Few runs and metals in most trials, so that trying every set of places ends soon.
            this.places = random.nextInt(10) == 0 ? 60 : 12 + random.nextInt(24);
        }

        int to(int bound) { return random.nextInt(bound); }

        /** Mostly below the bound, now and then an edge or a number that is none. */
        int near(int bound) {
            int k = to(40);
            if (k == 0) return -1;
            if (k == 1) return bound;
            if (k == 2) return to(2) == 0 ? Integer.MIN_VALUE : Integer.MAX_VALUE;
            return bound <= 0 ? 0 : to(bound);
        }

        void due(String call, long got, long want) {
            calls.append(call).append(" = ").append(want).append("; ");
            String name = call.substring(0, call.indexOf('('));
            SEEN.add(name + (want >= 0 ? " ok" : want == -9 || want >= -4 ? " " + want : " below 0"));
            if (name.equals("cause")) SEEN.add("cause of " + want);
            if (got == want || failed) return;
            failed = true;
            wrong++;
            System.out.println("trial " + seed + ": " + calls + "\n  the last answered " + got);
        }

        void side(String call, long got, long want) {
            if (got == want || failed) return;
            failed = true;
            wrong++;
            System.out.println("trial " + seed + ": " + calls + "\n  then " + call + " answered " + got + ", due is " + want);
        }

        void sides() {
            side("asked()", x.asked(), m.asked);
            side("pence()", x.pence(), m.pence);
            side("upper()", x.upper(), m.upper);
            side("lower()", x.lower(), m.lower);
            side("finding()", x.finding(), m.finding);
            for (int f = 1; f <= 5; f++) side("findings(" + f + ")", x.findings(f), m.findings[f]);
        }

        void all() {
            side("digest()", x.digest(), m.digest());
            for (int i = 0; i < 3; i++) for (int w = 0; w < 6; w++) side("causeTold(" + i + ", " + w + ")", x.causeTold(i, w), m.causeTold(i, w));
            for (int i = 0; i < m.orders.size(); i++) side("planned(" + i + ")", x.planned(i), m.planned(i));
        }

        void write(int t, String text) {
            due("text(" + t + ", " + text.length() + ")", x.text(t, text.length()), m.text(t, text.length()));
            for (int i = 0; i < text.length(); i++) {
                int c = text.charAt(i);
                if (c != 32) due("put(" + t + ", " + i + ", " + c + ")", x.put(t, i, c), m.put(t, i, c));
            }
        }

        String itemText() {
            String blanks = "  ".substring(to(3));
            return blanks + switch (to(6)) {
                case 0 -> "G" + to(4) + to(4) + to(100);
                case 1 -> "G" + (to(2) == 0 ? "23" : "33") + to(12);
                case 2 -> "W" + (to(2) == 0 ? to(100000) : to(3000));
                case 3 -> "P" + to(3) + to(10000);
                case 4 -> "N" + to(4);
                default -> "Y" + to(4);
            };
        }

        void ruleCalls() {
            StringBuilder b = new StringBuilder();
            for (int i = to(3) + 1; i > 0; i--) b.append(itemText());
            if (to(6) == 0) b.setCharAt(to(b.length()), "GWPNY0123456789 x".charAt(to(17)));
            if (to(8) == 0) b.setLength(to(b.length()) + 1);
            int t = to(4);
            write(t, b.length() > 48 ? b.substring(0, 48) : b.toString());
            due("fault(" + t + ")", x.fault(t), m.fault(t));
            int from = to(3) == 0 ? near(1000) : Math.min(999, Math.max(0, m.today - 3 + to(7)));
            due("rule(" + t + ", " + from + ")", x.rule(t, from), m.rule(t, from));
        }

        int metal() { return near(m.metals.size()); }
        int aRun() { return near(m.runs.size()); }
        int turn() { return to(15) == 0 ? near(1000) : to(3) * 7; }
        int aDay() { return to(4) == 0 ? near(1000) : Math.min(999, Math.max(0, m.today - 8 + to(12))); }
        int side() { return to(3) == 0 ? near(20) : to(4); }

        void rowCalls() {
            int r = near(6), n = near(25), i = near(6), v = to(12) - 3, to = near(6), j = near(6);
            switch (to(6)) {
                case 0 -> due("row(" + r + ", " + n + ")", x.row(r, n), m.row(r, n));
                case 1 -> due("row(" + r + ", 3)", x.row(r, 3), m.row(r, 3));
                case 2, 3 -> due("lay(" + r + ", " + i + ", " + v + ")", x.lay(r, i, v), m.lay(r, i, v));
                case 4 -> {
                    if (to(5) == 0) due("tear(" + r + ")", x.tear(r), m.tear(r));
                    else due("swishRun(" + r + ", " + to + ")", x.swishRun(r, to), m.swishRun(r, to));
                }
                default -> due("copy(" + r + ", " + i + ", " + to + ", " + j + ", " + v + ")",
                    x.copy(r, i, to, j, v), m.copy(r, i, to, j, v));
            }
        }

        void textCalls() {
            int t = near(4), n = near(49), i = near(10), v = random.nextInt();
            switch (to(4)) {
                case 0 -> due("text(" + t + ", " + n + ")", x.text(t, n), m.text(t, n));
                case 1 -> due("put(" + t + ", " + i + ", " + v + ")", x.put(t, i, v), m.put(t, i, v));
                case 2 -> due("fault(" + t + ")", x.fault(t), m.fault(t));
                default -> due("burn(" + t + ")", x.burn(t), m.burn(t));
            }
        }

        void metalCalls() {
            int a = metal(), k = near(4), h = near(10);
            boolean more = m.places().size() < places;
            switch (to(9)) {
                case 0, 1 -> {
                    int s = side();
                    due("lacquer(" + s + ", " + h + ")", x.lacquer(s, h), m.lacquer(s, h));
                }
                case 2, 3, 4 -> {
                    if (!more) return;
                    if (to(4) > 0 && m.metal(a)) k = m.metals.get(a).kind + 1;
                    due("grow(" + a + ", " + k + ", " + h + ")", x.grow(a, k, h), m.grow(a, k, h));
                }
                case 5 -> {
                    if (to(3) > 0) k = to(2) * 2;
                    due("state(" + a + ", " + k + ")", x.state(a, k), m.state(a, k));
                }
                case 6 -> {
                    int w = near(7);
                    due("told(" + a + ", " + w + ")", x.told(a, w), m.told(a, w));
                }
                case 7 -> {
                    if (to(4) > 0 && m.metal(a)) k = m.metals.get(a).kind;
                    due("mark(" + a + ", " + k + ")", x.mark(a, k), m.mark(a, k));
                }
                default -> {
                    int d = aDay();
                    due("asOf(" + a + ", " + d + ")", x.asOf(a, d), m.asOf(a, d));
                    due("lead(" + a + ")", x.lead(a), m.lead(a));
                }
            }
        }

        int stamper() {
            List<Integer> stampers = new ArrayList<>();
            for (int i = 0; i < m.metals.size(); i++) if (m.metals.get(i).kind == 3) stampers.add(i);
            return stampers.isEmpty() || to(12) == 0 ? metal() : stampers.get(to(stampers.size()));
        }

        int loaded(int otherwise) {
            List<Integer> loaded = new ArrayList<>();
            for (int p = 0; p < 6; p++) if (m.presses[p] != null) loaded.add(p);
            return loaded.isEmpty() ? otherwise : loaded.get(to(loaded.size()));
        }

        void pressCalls() {
            int p = to(10) == 0 ? near(6) : to(3), a = stamper(), b = stamper();
            switch (to(9)) {
                case 0, 1 -> due("marry(" + p + ", " + a + ", " + b + ")", x.marry(p, a, b), m.marry(p, a, b));
                case 2 -> due("part(" + p + ")", x.part(p), m.part(p));
                case 3 -> {
                    int f = near(2);
                    due("held(" + p + ", " + f + ")", x.held(p, f), m.held(p, f));
                }
                case 4 -> {
                    int ox = near(18) - 8, oy = near(18) - 8;
                    due("off(" + p + ", " + ox + ", " + oy + ")", x.off(p, ox, oy), m.off(p, ox, oy));
                }
                case 5, 6 -> {
                    if (m.places().size() >= places) return;
                    if (to(10) > 0) p = loaded(p);
                    int n = to(8) == 0 ? near(10002) : 1 + to(200);
                    boolean hot = to(3) == 0;
                    due("run(" + p + ", " + n + ", " + hot + ")", x.run(p, n, hot), m.run(p, n, hot));
                }
                case 7 -> {
                    int r = aRun(), w = near(7);
                    due("runTold(" + r + ", " + w + ")", x.runTold(r, w), m.runTold(r, w));
                }
                default -> due("mean(" + a + ")", x.mean(a), m.mean(a));
            }
        }

        void forceCalls() {
            int what = near(4), a = near(8), b = near(4), d = aDay(), k = aDay();
            if (to(3) == 0) a = to(4);
            String of = "(" + what + ", " + a + ", " + b + ", " + d + ", " + k + ")";
            due("force" + of, x.force(what, a, b, d, k), m.ask(what, a, b, d, k, false));
            due("why" + of, x.why(what, a, b, d, k), m.ask(what, a, b, d, k, true));
        }

        int heardTurn() {
            List<Integer> turns = new ArrayList<>();
            for (Report r : m.reports) if (r.heard) turns.add(r.turn);
            return turns.isEmpty() || to(5) == 0 ? turn() : turns.get(to(turns.size()));
        }

        void clickCalls() {
            int r = aRun(), f = near(2), miss = to(3) > 0 ? to(4) : near(61), kind = to(10);
            int t = kind < 3 ? turn() : heardTurn();
            switch (kind) {
                case 0, 1, 2 -> {
                    boolean heard = to(8) < loud;
                    due("report(" + r + ", " + f + ", " + t + ", " + heard + ")", x.report(r, f, t, heard), m.report(r, f, t, heard));
                }
                case 3, 8, 9 -> due("cause(" + t + ", " + miss + ")", x.cause(t, miss), m.cause(t, miss));
                case 4 -> due("rivals(" + t + ", " + miss + ")", x.rivals(t, miss), m.rivals(t, miss));
                case 5 -> due("nextTest(" + t + ", " + miss + ")", x.nextTest(t, miss), m.nextTest(t, miss));
                case 6 -> {
                    int i = near(4), w = near(6);
                    due("causeTold(" + i + ", " + w + ")", x.causeTold(i, w), m.causeTold(i, w));
                }
                default -> {
                    int a = metal(), d = aDay(), l = near(4), turn = near(1000);
                    due("recall(" + a + ", " + d + ", " + l + ")", x.recall(a, d, l), m.recall(a, d, l));
                    due("swish(" + r + ", " + turn + ")", x.swish(r, turn), m.swish(r, turn));
                }
            }
        }

        void saleCalls() {
            int r = aRun(), n = to(8) == 0 ? near(10002) : 1 + to(40), l = to(8) == 0 ? near(8) : to(3), s = side();
            switch (to(8)) {
                case 0, 1 -> due("sell(" + r + ", " + n + ", " + l + ")", x.sell(r, n, l), m.sell(r, n, l));
                case 2, 3 -> due("back(" + r + ", " + n / 2 + ", " + l + ")", x.back(r, n / 2, l), m.back(r, n / 2, l));
                case 4 -> {
                    int a = aDay(), b = to(2) == 0 ? 999 : aDay();
                    due("owe(" + s + ", " + l + ", " + a + ", " + b + ")", x.owe(s, l, a, b), m.owe(s, l, a, b));
                }
                case 5 -> due("share(" + s + ")", x.share(s), m.share(s));
                case 6 -> due("guess(" + s + ")", x.guess(s), m.guess(s));
                default -> {
                    int come = to(2) == 0 ? near(100001) : to(60), wax = near(1001), lost = near(1001);
                    due("cost(" + s + ", " + come + ", " + wax + ", " + lost + ")", x.cost(s, come, wax, lost), m.cost(s, come, wax, lost));
                }
            }
        }

        void orderCalls() {
            int p = near(5), rate = to(3) == 0 ? near(10001) : 1 + to(40), o = near(9);
            switch (to(4)) {
                case 0 -> {
                    int n = to(6) == 0 ? near(100002) : 1 + to(100), d = to(3) == 0 ? near(1000) : Math.min(999, m.today + to(12));
                    due("order(" + n + ", " + d + ")", x.order(n, d), m.order(n, d));
                }
                case 1 -> due("planned(" + o + ")", x.planned(o), m.planned(o));
                default -> {
                    if (m.orders.size() > 7 && to(6) > 0) return;
                    due("plan(" + p + ", " + rate + ")", x.plan(p, rate), m.plan(p, rate));
                }
            }
        }

        void dayCalls() {
            int n = to(12) == 0 ? near(1000) : to(4);
            if (n > 20 && to(4) > 0) n = 1;
            due("later(" + n + ")", x.later(n), m.later(n));
            int what = near(11), f = near(7);
            due("count(" + what + ")", x.count(what), m.count(what));
            due("findings(" + f + ")", x.findings(f), m.findings(f));
        }

        /** Two to four sides with a stamper or two each, so that there is something to press. */
        void begin() {
            int sides = 2 + to(3);
            for (int s = 0; s < sides; s++) {
                due("lacquer(" + s + ", 1)", x.lacquer(s, 1), m.lacquer(s, 1));
                int at = m.metals.size() - 1;
                for (int k = 1; k <= 3; k++) {
                    due("grow(" + at + ", " + k + ", 2)", x.grow(at, k, 2), m.grow(at, k, 2));
                    at = m.metals.size() - 1;
                }
                int mother = at - 1;
                if (to(2) == 0) due("grow(" + mother + ", 3, 3)", x.grow(mother, 3, 3), m.grow(mother, 3, 3));
            }
        }

        /** Some weeks of pressing, so that there are clicks to hear and copies to sell. */
        void press() {
            int most = 6 + to(24);
            for (int i = 0; i < 40 && m.runs.size() < 5 && m.places().size() < most; i++) {
                int p = to(3), a = stamper(), b = stamper();
                if (m.presses[p] == null) due("marry(" + p + ", " + a + ", " + b + ")", x.marry(p, a, b), m.marry(p, a, b));
                else if (to(3) == 0) due("part(" + p + ")", x.part(p), m.part(p));
                int q = loaded(p), n = 1 + to(90);
                due("run(" + q + ", " + n + ", false)", x.run(q, n, false), m.run(q, n, false));
                if (to(3) == 0) due("later(1)", x.later(1), m.later(1));
                if (to(4) == 0) due("grow(2, 3, 1)", x.grow(2, 3, 1), m.grow(2, 3, 1));
            }
        }

        void go() {
            if (to(8) > 0) begin();
            if (to(4) > 0) press();
            int flavour = to(4);
            for (int i = 0; i < 330 && !failed; i++) {
                switch (to(14)) {
                    case 0 -> rowCalls();
                    case 1 -> textCalls();
                    case 2 -> metalCalls();
                    case 3, 4, 5 -> pressCalls();
                    case 6 -> { if (to(3) == 0) ruleCalls(); else forceCalls(); }
                    case 7, 8 -> clickCalls();
                    case 9, 10 -> saleCalls();
                    case 11 -> orderCalls();
                    case 12 -> { if (to(3) == 0) dayCalls(); }
                    default -> {
                        if (flavour == 0) clickCalls();
                        else if (flavour == 1) pressCalls();
                        else if (flavour == 2) saleCalls();
                        else metalCalls();
                    }
                }
                sides();
                if (i % 10 == 0) all();
            }
            all();
        }
    }

    /** Answers that the trials must have met, or they try too little. */
    private static void covered() {
        String[] must = {"cause of 0", "cause of 1", "cause of 2", "cause of 3", "cause -9", "rivals ok", "rivals -9", "nextTest ok", "nextTest -9", "plan ok", "grow -4",
            "grow ok", "run ok", "run -4", "run -3", "sell ok", "sell -4", "back ok", "back -4", "rule ok", "rule -4", "fault ok",
            "fault -9", "report ok", "marry ok", "marry -4", "marry -3", "share ok", "share -3", "mean ok", "mean -3", "copy ok",
            "copy -3", "swishRun ok", "swishRun -3", "state ok", "state -4", "asOf ok", "asOf -9", "planned ok", "planned -9",
            "order -2", "owe ok", "cost ok", "recall ok", "causeTold ok", "causeTold -9"};
        for (String s : must) {
            if (SEEN.contains(s)) continue;
            wrong++;
            System.out.println("no trial met: " + s);
        }
    }

    public static void main(String[] args) {
        int trials = args.length > 0 ? Integer.parseInt(args[0]) : 1000;
        long first = args.length > 1 ? Long.parseLong(args[1]) : 1;
        for (long seed = first; seed < first + trials && wrong < 5; seed++) new Trial(seed).go();
        covered();
        System.out.println(wrong == 0 ? trials + " trials agree" : wrong + " faults");
        if (wrong != 0) System.exit(1);
    }
}
