import java.util.ArrayList;
import java.util.List;
import java.util.Random;
import java.util.function.ToIntFunction;

/**
 * Random runs of calls, each answer held against a slow program that follows the document's
 * words: all LAYINGS of a small book are listed one by one, those of a great book are searched
 * thing by thing with whole layings compared.
 */
public final class ReferenceTest {
    private static int wrong = 0;
    private static final StringBuilder LOG = new StringBuilder();

    private static final class Item {
        int kind, size, least, most;
        Item(int kind, int size, int least, int most) {
            this.kind = kind; this.size = size; this.least = least; this.most = most;
        }
        Item copy() { return new Item(kind, size, least, most); }
    }

    /** A part of a laying: first[t], room[t], with its three sums. */
    private static final class Way {
        int columns, out, rooms;
        boolean[] first; int[] room; int[] top; int[] column;
    }

    private static final class Ref {
        List<Item> items = new ArrayList<>();
        int grid = 10, high = 120;
        List<List<Item>> keptItems = new ArrayList<>(List.of(new ArrayList<>(), new ArrayList<>()));
        int[] keptGrid = new int[2], keptHigh = new int[2];
        int kept = 0;

        // things
        int n; int[] item, line, lines, tall;

        void things(List<Item> of) {
            n = 0;
            for (Item it : of) n += it.kind == 0 ? it.size : 1;
            item = new int[n]; line = new int[n]; lines = new int[n]; tall = new int[n];
            int t = 0;
            for (int i = 0; i < of.size(); i++) {
                Item it = of.get(i);
                int m = it.kind == 0 ? it.size : 1;
                for (int k = 0; k < m; k++, t++) {
                    item[t] = i; line[t] = k; lines[t] = m;
                    tall[t] = it.kind == 0 ? grid : it.size;
                }
            }
        }

        // ---- the list of all layings, for small books
        Way found; boolean[] f; int[] r; List<Item> now; int atHigh;

        Way listed(List<Item> of, int high) {
            things(of); now = of; atHigh = high; found = null; f = new boolean[n]; r = new int[n];
            list(0);
            return found;
        }

        void list(int t) {
            if (t == n) { judge(); return; }
            Item it = now.get(item[t]);
            f[t] = true; r[t] = 0;
            if (partHolds(t)) list(t + 1);
            if (t == 0) return;
            f[t] = false;
            int lo = it.kind == 0 ? 0 : it.least, hi = it.kind == 0 ? 0 : it.most;
            for (int x = lo; x <= hi; x++) {
                f[t] = false; r[t] = x;
                if (partHolds(t)) list(t + 1);
            }
        }

        int topOf(int t) {
            int top = 0;
            for (int u = 0; u <= t; u++) {
                if (f[u]) top = 0; else top += r[u];
                if (u < t) top += tall[u];
            }
            return top;
        }

        boolean partHolds(int t) {
            if (topOf(t) + tall[t] > atHigh) return false;
            if (!f[t] || t == 0) return true;
            if (now.get(item[t - 1]).kind == 1) return false;
            if (now.get(item[t]).kind != 0 || line[t] == 0) return true;
            int columnBefore = 0;
            for (int u = t - 1; u >= 0; u--) {
                if (item[u] == item[t]) columnBefore++;
                if (f[u]) break;
            }
            return columnBefore >= 2 && lines[t] - 1 - line[t] >= 1;
        }

        void judge() {
            Way w = new Way();
            w.first = f.clone(); w.room = r.clone(); w.top = new int[n]; w.column = new int[n];
            for (int t = 0; t < n; t++) {
                w.top[t] = topOf(t);
                if (f[t]) w.columns++;
                w.column[t] = w.columns - 1;
                if (now.get(item[t]).kind == 0 && w.top[t] % grid != 0) w.out++;
                w.rooms += r[t];
            }
            if (found == null || better(w, found)) found = w;
        }

        boolean better(Way a, Way b) {
            if (a.columns != b.columns) return a.columns < b.columns;
            if (a.out != b.out) return a.out < b.out;
            if (a.rooms != b.rooms) return a.rooms < b.rooms;
            for (int t = 0; t < n; t++) {
                if (a.first[t] != b.first[t]) return !a.first[t];
                if (a.room[t] != b.room[t]) return a.room[t] < b.room[t];
            }
            return false;
        }

        // ---- forward over things, for great books: the best way to each (end, lines of the text in the column)
        Way searched(List<Item> of, int high) {
            things(of); now = of;
            if (n == 0) { Way w = new Way(); w.first = new boolean[0]; w.room = new int[0]; w.top = new int[0]; w.column = new int[0]; return w; }
            Way[][] to = new Way[high + 1][4];
            if (tall[0] > high) return null;
            Way start = blank(); start.first[0] = true; start.columns = 1;
            to[tall[0]][1] = start;
            for (int t = 1; t < n; t++) {
                Way[][] next = new Way[high + 1][4];
                Item it = of.get(item[t]);
                boolean isLine = it.kind == 0, inner = isLine && line[t] > 0;
                for (int e = 0; e <= high; e++) for (int c = 1; c < 4; c++) {
                    Way w = to[e][c];
                    if (w == null) continue;
                    int lo = isLine ? 0 : it.least, hi = isLine ? 0 : it.most;
                    for (int x = lo; x <= hi; x++)
                        offer(next, w, t, false, x, e + x, inner ? Math.min(3, c + 1) : 1, isLine, high);
                    if (of.get(item[t - 1]).kind == 1) continue;
                    if (inner && (c < 2 || line[t] >= lines[t] - 1)) continue;
                    offer(next, w, t, true, 0, 0, 1, isLine, high);
                }
                to = next;
            }
            Way best = null;
            for (Way[] row : to) for (Way w : row) if (w != null && (best == null || better(w, best))) best = w;
            return best;
        }

        Way blank() {
            Way w = new Way();
            w.first = new boolean[n]; w.room = new int[n]; w.top = new int[n]; w.column = new int[n];
            return w;
        }

        void offer(Way[][] next, Way from, int t, boolean first, int room, int top, int c, boolean isLine, int high) {
            int end = top + tall[t];
            if (end > high) return;
            Way w = new Way();
            w.columns = from.columns + (first ? 1 : 0);
            w.out = from.out + (isLine && top % grid != 0 ? 1 : 0);
            w.rooms = from.rooms + room;
            Way old = next[end][c];
            if (old != null && (w.columns > old.columns || w.columns == old.columns && (w.out > old.out || w.out == old.out && w.rooms > old.rooms))) return;
            w.first = from.first.clone(); w.room = from.room.clone(); w.top = from.top.clone(); w.column = from.column.clone();
            w.first[t] = first; w.room[t] = room; w.top[t] = top; w.column[t] = w.columns - 1;
            if (old == null || better(w, old)) next[end][c] = w;
        }

        // ---- THE BEST, by the list if that is short enough
        boolean small(List<Item> of) {
            long ways = 1;
            for (Item it : of) {
                int m = it.kind == 0 ? it.size : 1;
                for (int k = 0; k < m; k++) ways *= it.kind == 0 ? 2 : it.most - it.least + 2;
                if (ways > 3000) return false;
            }
            return true;
        }

        static int listedCount = 0, searchedCount = 0;

        Way best(List<Item> of, int high) {
            if (small(of)) {
                Way a = listed(of, high);
                if (of.isEmpty()) a.columns = 0;
                Way b = searched(of, high);
                if ((a == null) != (b == null) || a != null && (better(a, b) || better(b, a))) { wrong++; System.out.println("the two references differ"); }
                listedCount++;
                return a;
            }
            searchedCount++;
            return searched(of, high);
        }

        Way cache;
        Way best() { if (cache == null) { cache = best(items, high); } things(items); return cache; }

        boolean has(int i) { return i >= 0 && i < items.size(); }

        int add(int kind, int size, int least, int most) {
            if (kind < 0 || kind > 2 || size < 1 || size > (kind == 0 ? 12 : 80)) return -2;
            if (kind != 0 && (least < 0 || least > 30 || most < 0 || most > 30 || least > most)) return -2;
            if (items.size() == 12) return -4;
            items.add(kind == 0 ? new Item(0, size, 0, 0) : new Item(kind, size, least, most));
            cache = null;
            return items.size() - 1;
        }

        int change(int i, int what, int v) {
            if (!has(i)) return -1;
            Item it = items.get(i);
            if (what < 1 || what > 3) return -2;
            if (what == 1 && (v < 1 || v > (it.kind == 0 ? 12 : 80))) return -2;
            if (what != 1 && (it.kind == 0 || v < 0 || v > 30)) return -2;
            if (what == 2 && v > it.most || what == 3 && v < it.least) return -2;
            cache = null;
            int old;
            if (what == 1) { old = it.size; it.size = v; }
            else if (what == 2) { old = it.least; it.least = v; }
            else { old = it.most; it.most = v; }
            return old;
        }

        int remove(int i) { if (!has(i)) return -1; items.remove(i); cache = null; return items.size(); }

        int move(int i, int to) {
            if (!has(i)) return -1;
            if (!has(to)) return -2;
            items.add(to, items.remove(i)); cache = null;
            return 1;
        }

        int set(int what, int v) {
            if (what == 0 && v >= 3 && v <= 20) { int o = grid; grid = v; cache = null; return o; }
            if (what == 1 && v >= 12 && v <= 200) { int o = high; high = v; cache = null; return o; }
            return -2;
        }

        int item(int i, int what) {
            if (!has(i)) return -1;
            Item it = items.get(i);
            return what == 0 ? it.kind : what == 1 ? it.size : what == 2 ? it.least : what == 3 ? it.most : -2;
        }

        int bestOf(int what) {
            if (what < 0 || what > 4) return -2;
            Way w = best();
            if (w == null) return -6;
            if (what == 0) return w.columns;
            if (what == 1) return w.out;
            if (what == 2) return w.rooms;
            int splits = 0, left = 0;
            for (int t = 0; t < n; t++) {
                if (w.first[t] && items.get(item[t]).kind == 0 && line[t] > 0) splits++;
                if (t == n - 1 || w.first[t + 1]) left += high - w.top[t] - tall[t];
            }
            return what == 3 ? splits : left;
        }

        int place(int i, int k, int what) {
            if (!has(i)) return -1;
            if (what < 0 || what > 3) return -2;
            Way w = best();
            if (w == null) return -6;
            for (int t = 0; t < n; t++)
                if (item[t] == i && line[t] == k)
                    return what == 0 ? w.column[t] : what == 1 ? w.top[t] : what == 2 ? w.room[t] : w.top[t] % grid;
            return -6;
        }

        int column(int c, int what) {
            if (what < 0 || what > 4) return -2;
            Way w = best();
            if (w == null) return -6;
            int many = 0, end = 0, out = 0, first = -6, last = -6;
            for (int t = 0; t < n; t++) {
                if (w.column[t] != c) continue;
                if (many++ == 0) first = item[t];
                last = item[t];
                end = w.top[t] + tall[t];
                if (items.get(item[t]).kind == 0 && w.top[t] % grid != 0) out++;
            }
            if (many == 0) return -6;
            return what == 0 ? many : what == 1 ? end : what == 2 ? out : what == 3 ? first : last;
        }

        int meet(int p) {
            Way w = best();
            if (w == null) return -6;
            boolean any = false;
            int met = 0;
            for (int t = 0; t < n; t++) {
                if (p >= 0 && w.column[t] / 2 == p) any = true;
                for (int u = 0; u < n; u++)
                    if (w.column[t] == 2L * p && w.column[u] == 2L * p + 1 && w.top[t] == w.top[u]
                        && items.get(item[t]).kind == 0 && items.get(item[u]).kind == 0) met++;
            }
            return any ? met : -6;
        }

        int reliefBy(int i) {
            List<Item> of = new ArrayList<>();
            for (Item it : items) of.add(it.copy());
            of.get(i).most = 30;
            return best().out - best(of, high).out;
        }

        int relief(int i) {
            if (!has(i)) return -1;
            if (items.get(i).kind == 0) return -2;
            return best() == null ? -6 : 1000 + reliefBy(i);
        }

        int culprit() {
            if (best() == null) return -6;
            int most = 0, who = -6;
            for (int i = 0; i < items.size(); i++) {
                int by = items.get(i).kind == 0 ? 0 : reliefBy(i);
                if (by > most) { most = by; who = i; }
            }
            return who;
        }

        int fit(int columns) {
            if (columns < 0 || columns > 150) return -2;
            for (int h = 12; h <= 200; h++) {
                Way w = searched(items, h);
                if (w != null && w.columns <= columns) return h;
            }
            return -6;
        }

        int image(int k) {
            if (k < 0 || k > 1) return -2;
            keptItems.set(k, copies(items)); keptGrid[k] = grid; keptHigh[k] = high; kept |= 1 << k;
            return 1;
        }

        int restore(int k) {
            if (k < 0 || k > 1) return -2;
            if ((kept >> k & 1) == 0) return -3;
            items = copies(keptItems.get(k)); grid = keptGrid[k]; high = keptHigh[k]; cache = null;
            return 1;
        }

        static List<Item> copies(List<Item> of) {
            List<Item> made = new ArrayList<>();
            for (Item it : of) made.add(it.copy());
            return made;
        }

        int count(int what) {
            if (what == 0) return items.size();
            if (what == 1) { things(items); return n; }
            if (what == 2) return grid;
            if (what == 3) return high;
            if (what == 4) return kept;
            if (what < 10 || what > 12) return -2;
            int c = 0;
            for (Item it : items) if (it.kind == what - 10) c++;
            return c;
        }
    }

    private static Random random = new Random(7);
    private static int from(int a, int b) { return a + random.nextInt(b - a + 1); }
    private static int odd(int a, int b) {
        if (random.nextInt(12) > 0) return from(a, b);
        int[] some = {a - 1, b + 1, -1, 0, 1, Integer.MIN_VALUE, Integer.MAX_VALUE, 1 << 30, -(1 << 30), 1 << 31 - 1};
        return some[random.nextInt(some.length)];
    }

    private static void due(String call, int got, int want) {
        LOG.append(call).append(" = ").append(got).append('\n');
        if (got != want && wrong++ < 3) System.out.println(LOG + "  due is " + want);
    }

    // ---- the object, and another one that was asked the same alterations before it has had 512 calls

    private static final int MOST_CALLS = 512;
    private static final List<ToIntFunction<StepColumns>> ALTERATIONS = new ArrayList<>();
    private static final StringBuilder ALTERATIONS_LOG = new StringBuilder();
    private static StepColumns object;
    private static int calls, objects = 0;
    private static Ref ref;

    /** The object for the next call; what is told after the 512th call is free. */
    private static StepColumns x() {
        if (calls >= MOST_CALLS) renew();
        calls++;
        return object;
    }

    private static void renew() {
        object = new StepColumns();
        objects++;
        for (ToIntFunction<StepColumns> alteration : ALTERATIONS) alteration.applyAsInt(object);
        calls = ALTERATIONS.size();
        LOG.setLength(0);
        LOG.append("a new object\n").append(ALTERATIONS_LOG);
    }

    private static void alters(String call, ToIntFunction<StepColumns> alteration, int want) {
        int got = alteration.applyAsInt(x());
        ALTERATIONS.add(alteration);
        ALTERATIONS_LOG.append(call).append(" = ").append(got).append('\n');
        due(call, got, want);
    }

    private static void alter(int size, int maxLines, int maxTall, int maxRoom) {
        int c = random.nextInt(12);
        if (c < 4 && ref.items.size() < size || c == 4 && random.nextInt(4) == 0) {
            int kind = odd(0, 2), s = odd(1, kind == 0 ? maxLines : maxTall), l = odd(0, maxRoom), m = odd(Math.max(0, Math.min(l, maxRoom)), maxRoom);
            alters("add(" + kind + ", " + s + ", " + l + ", " + m + ")", x -> x.add(kind, s, l, m), ref.add(kind, s, l, m));
        } else if (c < 7) {
            int i = odd(0, Math.max(0, ref.items.size() - 1)), w = odd(1, 3), v = odd(0, w == 1 ? maxLines : maxRoom);
            alters("change(" + i + ", " + w + ", " + v + ")", x -> x.change(i, w, v), ref.change(i, w, v));
        } else if (c < 8 || ref.items.size() > size) {
            int i = odd(0, Math.max(0, ref.items.size() - 1));
            alters("remove(" + i + ")", x -> x.remove(i), ref.remove(i));
        } else if (c < 9) {
            int i = odd(0, Math.max(0, ref.items.size() - 1)), to = odd(0, Math.max(0, ref.items.size() - 1));
            alters("move(" + i + ", " + to + ")", x -> x.move(i, to), ref.move(i, to));
        } else if (c < 10) {
            int w = odd(0, 1), v = w == 0 ? odd(3, 20) : odd(12, random.nextBoolean() ? 80 : 200);
            alters("set(" + w + ", " + v + ")", x -> x.set(w, v), ref.set(w, v));
        } else {
            int k = odd(0, 1);
            if (c == 10) alters("image(" + k + ")", x -> x.image(k), ref.image(k));
            else alters("restore(" + k + ")", x -> x.restore(k), ref.restore(k));
        }
    }

    private static void ask(boolean dear) {
        for (int w = -1; w <= 5; w++) due("best(" + w + ")", x().best(w), ref.bestOf(w));
        for (int w = -1; w <= 13; w++) due("count(" + w + ")", x().count(w), ref.count(w));
        for (int i = -1; i <= ref.items.size(); i++) {
            for (int w = -1; w <= 4; w++) {
                due("item(" + i + ", " + w + ")", x().item(i, w), ref.item(i, w));
                int lines = ref.has(i) && ref.items.get(i).kind == 0 ? ref.items.get(i).size : 1;
                for (int k = -1; k <= lines; k++)
                    due("place(" + i + ", " + k + ", " + w + ")", x().place(i, k, w), ref.place(i, k, w));
            }
        }
        int columns = ref.best() == null ? 0 : ref.best().columns;
        for (int c = -1; c <= columns; c++)
            for (int w = -1; w <= 5; w++) due("column(" + c + ", " + w + ")", x().column(c, w), ref.column(c, w));
        for (int p = -1; p <= columns / 2 + 1; p++) due("meet(" + p + ")", x().meet(p), ref.meet(p));
        int far = odd(0, 5);
        due("meet(" + far + ")", x().meet(far), ref.meet(far));
        due("column(" + far + ", 0)", x().column(far, 0), ref.column(far, 0));
        if (!dear) return;
        for (int i = -1; i <= ref.items.size(); i++) due("relief(" + i + ")", x().relief(i), ref.relief(i));
        due("culprit()", x().culprit(), ref.culprit());
        int n = odd(0, random.nextBoolean() ? 3 : 150);
        due("fit(" + n + ")", x().fit(n), ref.fit(n));
        due("fit(" + columns + ")", x().fit(columns), ref.fit(columns));
    }

    private static void run(int size, int maxLines, int maxTall, int maxRoom, int steps) {
        ALTERATIONS.clear();
        ALTERATIONS_LOG.setLength(0);
        renew();
        ref = new Ref();
        for (int s = 0; s < steps; s++) {
            alter(size, maxLines, maxTall, maxRoom);
            ask(s % 4 == 3);
            if (wrong > 3) return;
        }
    }

    public static void main(String[] args) {
        if (args.length > 0) random = new Random(Long.parseLong(args[0]));
        int times = args.length > 1 ? Integer.parseInt(args[1]) : 1;
        for (int i = 0; i < 60 * times && wrong == 0; i++) run(4, 6, 25, 5, 24);
        for (int i = 0; i < 20 * times && wrong == 0; i++) run(6, 12, 40, 30, 24);
        for (int i = 0; i < 4 * times && wrong == 0; i++) run(12, 12, 80, 30, 40);
        // Little room among short texts: lines stay out, and several items give the same relief.
        for (int i = 0; i < 40 * times && wrong == 0; i++) run(9, 3, 12, 2, 32);
        System.out.println(Ref.listedCount + " books listed, " + Ref.searchedCount + " searched, " + objects + " objects");
        System.out.println(wrong == 0 ? "all answers are as due" : wrong + " answers are not as due");
        if (wrong != 0) System.exit(1);
    }
}
