import java.util.ArrayList;
import java.util.List;

/** A second, slow reading of the document, written apart from the class, for random runs to be compared with. */
final class Model {
    static final int NONE = -1, UNKNOWN = -1000000001, OUTSIDE = -1000000002, NOT = -1000000003, FULL = -1000000004;

    /** A thing of section 2 that can be copied whole. */
    static final class World {
        int days, stock, out;
        List<int[]> houses = new ArrayList<>(); // debt, empty, good days, weight
        List<Integer> holds = new ArrayList<>(); // by gull: its house
        List<int[]> log = new ArrayList<>(); // latest last
        List<int[]> events = new ArrayList<>(); // {0 out | 1 redeemed, house, day}, for trials alone

        World copy() {
            World w = new World();
            w.days = days;
            w.stock = stock;
            w.out = out;
            for (int[] h : houses) w.houses.add(h.clone());
            w.holds.addAll(holds);
            w.log.addAll(log);
            return w;
        }
    }

    StringBuilder text = new StringBuilder();
    int faultAt = NONE;
    List<Integer> catches = new ArrayList<>();
    List<Integer> due = new ArrayList<>();
    List<int[]> gulls = new ArrayList<>();
    World now = new World();
    List<World> undoable = new ArrayList<>();
    World[] images = new World[2];
    long[] imageSeeds = new long[2];
    List<int[]> heard = new ArrayList<>();
    List<int[]> book = new ArrayList<>();
    long seed = 0;

    int feed(int letter) {
        if (letter < 0 || letter > 255) return OUTSIDE;
        if (text.length() == 240) return FULL;
        text.append((char) letter);
        return text.length();
    }

    /** Tokens first: {kind, place, figures, value}; kind is the letter, '0' for numbers, -1 for the end. */
    private static List<int[]> tokens(String t) {
        List<int[]> all = new ArrayList<>();
        int i = 0;
        while (i < t.length()) {
            char c = t.charAt(i);
            if (c == ' ') { i++; continue; }
            if (c >= '0' && c <= '9') {
                int j = i;
                while (j < t.length() && t.charAt(j) >= '0' && t.charAt(j) <= '9') j++;
                String figures = t.substring(i, j);
                all.add(new int[] {'0', i, figures.length(), figures.length() > 3 ? 9999 : Integer.parseInt(figures)});
                i = j;
            } else {
                all.add(new int[] {c, i, 0, 0});
                i++;
            }
        }
        all.add(new int[] {-1, t.length(), 0, 0});
        return all;
    }

    int row() {
        String t = text.toString();
        text = new StringBuilder();
        faultAt = NONE;
        List<Integer> newCatches = new ArrayList<>();
        List<int[]> newHouses = new ArrayList<>();
        List<int[]> newGulls = new ArrayList<>();
        // The state says what may come: 0 a clause, 1 C, 2 behind C, 3 N, 4 D, 5 ';' of h, 6 K, 7 P, 8 ';' of g.
        int state = 0;
        int first = 0;
        for (int[] k : tokens(t)) {
            int fault = 0;
            switch (state) {
                case 0:
                    if (k[0] == -1) break;
                    if (k[0] != 'q' && k[0] != 'h' && k[0] != 'g') fault = 1;
                    else if (newCatches.isEmpty() && k[0] != 'q') fault = 1;
                    else if (k[0] == 'q' && !newCatches.isEmpty()) fault = 3;
                    else if (k[0] == 'h' && newHouses.size() == 7) fault = 3;
                    else if (k[0] == 'g' && newGulls.size() == newHouses.size()) fault = 3;
                    else state = k[0] == 'q' ? 1 : k[0] == 'h' ? 3 : 6;
                    break;
                case 1: case 3: case 4: case 6: case 7:
                    int low = state == 3 || state == 7 ? 1 : 0;
                    int high = state == 3 ? 9 : state == 6 ? 3 : 99;
                    if (k[0] != '0') fault = 1;
                    else if (k[2] > 3 || k[3] < low || k[3] > high) fault = 2;
                    else {
                        if (state == 1) newCatches.add(k[3]);
                        if (state == 4) newHouses.add(new int[] {first, k[3]});
                        if (state == 7) newGulls.add(new int[] {first, k[3]});
                        first = k[3];
                        state++;
                    }
                    break;
                default:
                    if (k[0] == ';') state = 0;
                    else if (k[0] == ',' && state == 2 && newCatches.size() < 12) state = 1;
                    else fault = 1;
            }
            if (fault != 0) {
                faultAt = k[1];
                return -10 - fault;
            }
        }
        catches = newCatches;
        gulls = newGulls;
        due = new ArrayList<>();
        now = new World();
        for (int[] h : newHouses) {
            due.add(h[0]);
            now.houses.add(new int[] {h[1], 0, 0, 0});
        }
        for (int g = 0; g < gulls.size(); g++) now.holds.add(g);
        undoable.clear();
        images = new World[2];
        heard.clear();
        book.clear();
        return due.size();
    }

    int fault() { return faultAt; }

    private int gullOf(World w, int h) { return w.holds.indexOf(h); }
    private boolean held(World w, int h) { return w.houses.get(h)[1] == 0 && gullOf(w, h) >= 0; }
    private int debt(World w, int h) { return w.houses.get(h)[0]; }
    private boolean noHouse(int h) { return h < 0 || h >= due.size(); }
    private boolean noGull(int g) { return g < 0 || g >= gulls.size(); }
    private boolean off(int n, int a, int b) { return n < a || n > b; }

    private List<Integer> heldDebts() {
        List<Integer> all = new ArrayList<>();
        for (int h = 0; h < due.size(); h++) if (held(now, h)) all.add(debt(now, h));
        return all;
    }

    int told(int what) {
        int n = due.size();
        switch (what) {
            case 0: return catches.size();
            case 1: return n;
            case 2: return gulls.size();
            case 3: return text.length();
            case 4: return now.days;
            case 5: return now.stock;
            case 6: return now.out;
            case 7: case 8: case 9:
                int set = 0;
                for (int h = 0; h < n; h++) if (house(h, 2) == what - 7) set += 1 << h;
                return set;
            case 10: return heldDebts().stream().mapToInt(x -> x).sum();
            case 11:
                int astray = 0;
                for (int g = 0; g < gulls.size(); g++) if (now.holds.get(g) != NONE && now.holds.get(g) != g) astray++;
                return astray;
            case 12: return heldDebts().stream().mapToInt(x -> x).max().orElse(0) - heldDebts().stream().mapToInt(x -> x).min().orElse(0);
            case 13:
                int max = heldDebts().stream().mapToInt(x -> x).max().orElse(0);
                for (int h = 0; h < n; h++) if (held(now, h) && debt(now, h) == max) return h;
                return NONE;
            case 14: return now.log.size();
            case 15: return heard.size();
            case 16: return book.size();
            case 17: return undoable.size();
            default: return OUTSIDE;
        }
    }

    int house(int h, int what) {
        if (noHouse(h)) return UNKNOWN;
        if (off(what, 0, 5)) return OUTSIDE;
        int[] x = now.houses.get(h);
        int state = x[1] == 1 ? 2 : gullOf(now, h) < 0 ? 1 : 0;
        return new int[] {due.get(h), x[0], state, gullOf(now, h), x[2], x[3]}[what];
    }

    int gull(int g, int what) {
        if (noGull(g)) return UNKNOWN;
        if (off(what, 0, 2)) return OUTSIDE;
        return what == 2 ? now.holds.get(g) : gulls.get(g)[what];
    }

    int ahead(int n) {
        if (off(n, 0, 60)) return OUTSIDE;
        if (catches.isEmpty()) return NOT;
        return catches.get((now.days + n) % catches.size());
    }

    int logged(int i, int what) {
        if (off(what, 0, 2)) return OUTSIDE;
        if (off(i, 0, now.log.size() - 1)) return NONE;
        return now.log.get(now.log.size() - 1 - i)[what];
    }

    private void out(World w, int h) {
        w.houses.get(h)[1] = 1;
        w.out++;
        w.events.add(new int[] {0, h, w.days});
    }

    private void oneDay(World w) {
        if (!catches.isEmpty()) w.stock = Math.min(9999, w.stock + catches.get(w.days % catches.size()));
        for (int i = 0; i < due.size(); i++) {
            int h = (w.days + i) % due.size();
            if (!held(w, h)) continue;
            int g = gullOf(w, h);
            int kind = gulls.get(g)[0];
            int[] x = w.houses.get(h);
            int lacks = Math.max(0, due.get(h) - w.stock);
            w.stock = Math.max(0, w.stock - due.get(h));
            x[0] = Math.min(9999, x[0] + (kind == 1 ? lacks + lacks : lacks));
            if (lacks != 0) {
                w.log.add(new int[] {w.days, h, lacks});
                if (w.log.size() > 20) w.log.remove(0);
            } else if (x[0] > 0 && w.stock > 0) {
                w.stock--;
                x[0]--;
            }
            x[2] = x[0] == 0 ? x[2] + 1 : 0;
            if (x[2] == 7) {
                w.holds.set(g, NONE);
                w.events.add(new int[] {1, h, w.days});
                continue;
            }
            if (x[0] > gulls.get(g)[1] && kind != 2) out(w, h);
        }
        w.days++;
    }

    private void mark() {
        undoable.add(now.copy());
        if (undoable.size() > 30) undoable.remove(0);
    }

    int day(int n) {
        if (off(n, 1, 30)) return OUTSIDE;
        if (catches.isEmpty()) return NOT;
        if (now.days > 9000) return FULL;
        while (n-- > 0) { mark(); oneDay(now); }
        return now.stock;
    }

    private boolean payable(int h, int n) { return held(now, h) && now.stock >= n && debt(now, h) >= n; }

    int pay(int h, int n) {
        if (noHouse(h)) return UNKNOWN;
        if (off(n, 1, 99)) return OUTSIDE;
        if (!payable(h, n)) return NOT;
        mark();
        now.stock -= n;
        return now.houses.get(h)[0] -= n;
    }

    private boolean breadHouse(int h) { return held(now, h) && gulls.get(gullOf(now, h))[0] == 3; }

    int bread(int h, int n) {
        if (noHouse(h)) return UNKNOWN;
        if (off(n, 1, 9)) return OUTSIDE;
        if (!breadHouse(h) || debt(now, h) < n) return NOT;
        mark();
        int[] x = now.houses.get(h);
        x[3] += n;
        if (x[3] > 9) out(now, h);
        return x[0] -= n;
    }

    int stone(int h) {
        if (noHouse(h)) return UNKNOWN;
        if (now.houses.get(h)[1] == 1) return NOT;
        mark();
        out(now, h);
        return now.out;
    }

    int lend(int n) {
        if (off(n, 1, 999)) return OUTSIDE;
        if (catches.isEmpty()) return NOT;
        mark();
        return now.stock = Math.min(9999, now.stock + n);
    }

    private boolean swappable(World w, int h, int k) { return h != k && gullOf(w, h) >= 0 && gullOf(w, k) >= 0; }

    private void exchange(World w, int h, int k) {
        int a = gullOf(w, h);
        int b = gullOf(w, k);
        w.holds.set(a, k);
        w.holds.set(b, h);
        w.houses.get(h)[2] = 0;
        w.houses.get(k)[2] = 0;
    }

    int swap(int h, int k) {
        if (noHouse(h) || noHouse(k) || h == k) return UNKNOWN;
        if (!swappable(now, h, k)) return NOT;
        mark();
        exchange(now, h, k);
        return gullOf(now, h);
    }

    private int draw(int n) {
        seed = (seed * 1103515245L + 12345L) % 2147483648L;
        return (int) (seed / 65536 % n);
    }

    int drift(int n) {
        if (off(n, 1, 30)) return OUTSIDE;
        if (catches.isEmpty()) return NOT;
        if (now.days > 9000) return FULL;
        for (int i = 0; i < n; i++) {
            mark();
            int d = draw(6);
            if (d == 0) now.stock = Math.min(9999, now.stock + draw(20));
            if (d == 1 && due.size() > 1) {
                int h = draw(due.size());
                int k = draw(due.size());
                if (swappable(now, h, k)) exchange(now, h, k);
            }
            if (d == 2 && due.size() > 0) {
                int h = draw(due.size());
                int heads = draw(10);
                if (payable(h, heads)) {
                    now.stock -= heads;
                    now.houses.get(h)[0] -= heads;
                }
            }
            oneDay(now);
        }
        return now.stock;
    }

    int undo(int n) {
        if (off(n, 1, 30)) return OUTSIDE;
        if (undoable.size() < n) return NOT;
        for (int i = 0; i < n; i++) now = undoable.remove(undoable.size() - 1);
        return now.days;
    }

    private World tried(int n) { return tried(now.copy(), n); }

    private World tried(World w, int n) {
        w.events.clear();
        for (int i = 0; i < n; i++) oneDay(w);
        return w;
    }

    private int setOf(World w, int event) {
        int set = 0;
        for (int[] e : w.events) if (e[0] == event) set |= 1 << e[1];
        return set;
    }

    int owes(int h, int n) {
        if (noHouse(h)) return UNKNOWN;
        if (off(n, 0, 60)) return OUTSIDE;
        return debt(tried(n), h);
    }

    int firstOut(int what) {
        if (off(what, 0, 1)) return OUTSIDE;
        for (int[] e : tried(60).events) if (e[0] == 0) return what == 0 ? e[1] : e[2] - now.days + 1;
        return NONE;
    }

    int outBy(int n) { return off(n, 0, 60) ? OUTSIDE : setOf(tried(n), 0); }

    int redeemedBy(int n) { return off(n, 0, 60) ? OUTSIDE : setOf(tried(n), 1); }

    int loan(int n) {
        if (off(n, 0, 60)) return OUTSIDE;
        for (int heads = 0; heads <= 999; heads++) {
            World w = now.copy();
            w.stock = Math.min(9999, w.stock + heads);
            if (setOf(tried(w, n), 0) == 0) return heads;
        }
        return NONE;
    }

    int clear(int what) {
        if (off(what, 0, 1)) return OUTSIDE;
        int best = 0;
        for (int set = 127; set > 0; set--) {
            int sum = 0;
            boolean can = true;
            for (int h = 0; h < 7; h++) {
                if ((set & 1 << h) == 0) continue;
                if (noHouse(h) || !held(now, h) || debt(now, h) == 0) can = false;
                else sum += debt(now, h);
            }
            if (can && sum <= now.stock && Integer.bitCount(set) >= Integer.bitCount(best)) best = set;
        }
        return what == 0 ? Integer.bitCount(best) : best;
    }

    int bestSwap(int n, int what) {
        if (off(n, 0, 60) || off(what, 0, 1)) return OUTSIDE;
        int without = Integer.bitCount(setOf(tried(n), 0));
        int best = NONE;
        int fewest = without;
        for (int h = 6; h >= 0; h--) {
            for (int k = 6; k > h; k--) {
                if (noHouse(h) || noHouse(k) || !swappable(now, h, k)) continue;
                World w = now.copy();
                exchange(w, h, k);
                int outs = Integer.bitCount(setOf(tried(w, n), 0));
                if (outs < without && outs <= fewest) {
                    fewest = outs;
                    best = 100 * h + k;
                }
            }
        }
        return best == NONE ? NONE : what == 0 ? best : fewest;
    }

    int home(int g) {
        if (noGull(g)) return UNKNOWN;
        int at = g;
        int steps = 0;
        do {
            if (noGull(at) || now.holds.get(at) == NONE) return NONE;
            at = now.holds.get(at);
            steps++;
        } while (at != g);
        return steps;
    }

    int mostBread(int h) {
        if (noHouse(h)) return UNKNOWN;
        if (!breadHouse(h)) return NONE;
        int n = 0;
        while (n < debt(now, h) && now.houses.get(h)[3] + n + 1 < 10) n++;
        return n;
    }

    int sure(int n, int q) {
        if (off(n, 0, 60) || off(q, 0, 100)) return OUTSIDE;
        return n == 0 ? 1000000000 : (int) ((long) sure(n - 1, q) * q / 100);
    }

    int hear(int g, int h, boolean was) {
        if (noGull(g) || noHouse(h)) return UNKNOWN;
        if (heard.size() == 6) return FULL;
        heard.add(new int[] {g, h, was ? 1 : 0});
        return heard.size();
    }

    /** By gale: its number, and behind it the house of each gull then. */
    private List<int[]> fitting() {
        List<int[]> all = new ArrayList<>();
        for (int a = 0; a < 10; a++) {
            for (int b = a + 1; b < 10; b++) {
                boolean none = a == 8 && b == 9;
                if (!none && (noGull(b) || now.holds.get(a) == NONE || now.holds.get(b) == NONE)) continue;
                int[] gale = new int[gulls.size() + 1];
                gale[0] = none ? 99 : 10 * a + b;
                for (int g = 0; g < gulls.size(); g++) {
                    gale[g + 1] = now.holds.get(!none && g == a ? b : !none && g == b ? a : g);
                }
                boolean fits = true;
                for (int[] x : heard) fits &= (gale[x[0] + 1] == x[1]) == (x[2] == 1);
                if (fits) all.add(gale);
            }
        }
        return all;
    }

    int gales(int what) {
        if (off(what, 0, 1)) return OUTSIDE;
        List<int[]> all = fitting();
        return what == 0 ? all.size() : all.isEmpty() ? NONE : all.get(0)[0];
    }

    int listen() {
        List<int[]> all = fitting();
        int best = NONE;
        int least = all.size();
        for (int h = 0; h < due.size(); h++) {
            int greatest = 0;
            for (int g = 0; g <= gulls.size(); g++) {
                int part = 0;
                for (int[] gale : all) {
                    int there = 0;
                    for (int k = 1; k < gale.length; k++) if (gale[k] == h) there = k;
                    if (there == g) part++;
                }
                greatest = Math.max(greatest, part);
            }
            if (greatest < least) {
                least = greatest;
                best = h;
            }
        }
        return best;
    }

    int write(int h, int debt) {
        if (noHouse(h)) return UNKNOWN;
        if (off(debt, 0, 9999)) return OUTSIDE;
        if (book.size() == 20) return FULL;
        book.add(new int[] {h, debt});
        return book.size();
    }

    int judge() {
        for (int i = 0; i < book.size(); i++) if (debt(now, book.get(i)[0]) != book.get(i)[1]) return i;
        return NONE;
    }

    int tear() {
        int had = heard.size() + book.size();
        heard.clear();
        book.clear();
        return had;
    }

    int seed(int v) {
        if (v < 0) return OUTSIDE;
        int was = (int) seed;
        seed = v;
        return was;
    }

    int keep(int i) {
        if (off(i, 0, 1)) return UNKNOWN;
        images[i] = now.copy();
        imageSeeds[i] = seed;
        undoable.clear();
        return 1;
    }

    int goBack(int i) {
        if (off(i, 0, 1)) return UNKNOWN;
        if (images[i] == null) return NOT;
        now = images[i].copy();
        seed = imageSeeds[i];
        undoable.clear();
        return 1;
    }
}
