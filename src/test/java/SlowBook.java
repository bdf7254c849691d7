import java.util.ArrayDeque;
import java.util.ArrayList;
import java.util.Arrays;
import java.util.Comparator;
import java.util.Deque;
import java.util.List;
import java.util.TreeMap;

/**
 * The document told a second time, in the plainest way that came to mind: day by day, with whole
 * copies, and with what a GUARANTOR holds summed over the LOADS. SideBySideTest holds BondStores
 * against it.
 */
public final class SlowBook {
    private static final int NONE = -1;

    private static final class Goods {
        int from, to, kind, quantity, days, rank, state, begun = NONE, came, duty, missing, allowed;
        int splitOf = NONE;
        long heldAll, releasedAll;
        int[] held = new int[4];

        Goods copy() {
            Goods c = new Goods();
            c.from = from; c.to = to; c.kind = kind; c.quantity = quantity; c.days = days;
            c.rank = rank; c.state = state; c.begun = begun; c.came = came; c.duty = duty;
            c.missing = missing; c.allowed = allowed; c.splitOf = splitOf;
            c.heldAll = heldAll; c.releasedAll = releasedAll; c.held = held.clone();
            return c;
        }

        int rest() { return quantity - came; }
        int latest() { return begun + days; }
        int heldNow() { return Arrays.stream(held).sum(); }
        boolean goes() { return state == 1; }
        boolean waits() { return state == 0; }
    }

    private static final class World {
        int day, grace = 30, strict = 1;
        List<Integer> limits = new ArrayList<>();
        int[] due = new int[4];
        long[] dueAll = new long[4], paidAll = new long[4];
        List<List<Integer>> orders = new ArrayList<>();
        List<int[]> stocks = new ArrayList<>();
        List<TreeMap<Integer, Integer>> rates = new ArrayList<>();
        int[] allows = new int[5], caps = new int[5];
        List<Goods> loads = new ArrayList<>();

        World() { for (int i = 0; i < 5; i++) rates.add(new TreeMap<>()); }

        World copy() {
            World c = new World();
            c.day = day; c.grace = grace; c.strict = strict;
            c.limits.addAll(limits);
            c.due = due.clone(); c.dueAll = dueAll.clone(); c.paidAll = paidAll.clone();
            for (List<Integer> o : orders) c.orders.add(new ArrayList<>(o));
            for (int[] s : stocks) c.stocks.add(s.clone());
            for (int i = 0; i < 5; i++) c.rates.get(i).putAll(rates.get(i));
            c.allows = allows.clone(); c.caps = caps.clone();
            for (Goods l : loads) c.loads.add(l.copy());
            return c;
        }

        int rateAt(int kind, int d) {
            var e = rates.get(kind).floorEntry(d);
            return e == null ? 0 : e.getValue();
        }

        int top(int kind, int a, int b) {
            int m = 0;
            for (int d = a; d <= b; d++) m = Math.max(m, rateAt(kind, d));
            return m;
        }

        int need(Goods l) {
            if (l.waits()) return l.rest() * top(l.kind, day, day + l.days);
            return l.goes() ? l.rest() * top(l.kind, l.begun, l.latest()) : 0;
        }

        int heldBy(int g) {
            int sum = 0;
            for (Goods l : loads) sum += l.held[g];
            return sum;
        }

        int free(int g) { return limits.get(g) - heldBy(g) - due[g]; }

        int freeOf(int store) {
            int sum = 0;
            for (int g : orders.get(store)) sum += free(g);
            return sum;
        }

        boolean hold(Goods l, int amount) {
            if (freeOf(l.from) < amount) return false;
            l.heldAll += amount;
            for (int g : orders.get(l.from)) {
                int part = Math.min(amount, free(g));
                l.held[g] += part;
                amount -= part;
            }
            return true;
        }

        List<Integer> wholeOrder(int store) {
            List<Integer> all = new ArrayList<>(orders.get(store));
            for (int g = 0; g < limits.size(); g++) if (!all.contains(g)) all.add(g);
            return all;
        }

        int[] takeFromLast(Goods l, int amount) {
            int[] taken = new int[4];
            List<Integer> all = wholeOrder(l.from);
            for (int i = all.size() - 1; i >= 0; i--) {
                int g = all.get(i);
                taken[g] = Math.min(amount, l.held[g]);
                l.held[g] -= taken[g];
                amount -= taken[g];
            }
            return taken;
        }

        void release(Goods l, int amount) {
            l.releasedAll += amount;
            takeFromLast(l, amount);
        }

        void becomesDue(Goods l, int amount) {
            for (int g : wholeOrder(l.from)) {
                int part = Math.min(amount, l.held[g]);
                l.held[g] -= part;
                due[g] += part;
                dueAll[g] += part;
                amount -= part;
            }
        }

        int allowanceFor(int kind, int q, int t) {
            return (int) ((long) q * Math.min(allows[kind] * t, caps[kind]) / 10000);
        }

        void finish(Goods l, int state, int loss, int t) {
            l.missing = l.rest();
            l.allowed = Math.min(l.missing, allowanceFor(l.kind, l.quantity, t));
            l.duty = (l.missing - l.allowed) * rateAt(l.kind, loss);
            becomesDue(l, l.duty);
            release(l, l.heldNow());
            l.state = state;
        }

        int t(Goods l) { return Math.min(day, l.latest()) - l.begun; }

        void arrives(Goods l, int q, boolean last, int loss) {
            stocks.get(l.to)[l.kind] += q;
            l.came += q;
            release(l, l.heldNow() - need(l));
            if (last || l.rest() == 0) finish(l, 2, loss, t(l));
        }

        List<Goods> waiting() {
            List<Goods> w = new ArrayList<>();
            for (Goods l : loads) if (l.waits()) w.add(l);
            w.sort(Comparator.comparingInt(l -> l.rank));
            return w;
        }

        List<Goods> going() {
            List<Goods> w = new ArrayList<>();
            for (Goods l : loads) if (l.goes()) w.add(l);
            w.sort(Comparator.comparingInt(Goods::latest));
            return w;
        }

        void inTurn() {
            for (Goods l : waiting()) {
                int n = need(l);
                if (n <= freeOf(l.from)) {
                    l.state = 1;
                    l.begun = day;
                    hold(l, n);
                } else if (strict == 1) {
                    break;
                }
            }
        }

        int passDay() {
            int lost = 0;
            day++;
            for (Goods l : loads) {
                if (l.goes() && l.latest() + grace < day) {
                    finish(l, 3, l.latest(), l.days);
                    lost++;
                }
            }
            inTurn();
            return lost;
        }

        boolean anew(Goods l) {
            int more = need(l) - l.heldNow();
            if (more > 0) return hold(l, more);
            release(l, -more);
            return true;
        }
    }

    private World w = new World();
    private final Deque<World> undoWorlds = new ArrayDeque<>();
    private final Deque<Integer> undoActs = new ArrayDeque<>();
    private final World[] images = new World[2];
    private final int[] refusedBy = new int[6];
    private int last;

    private int no(int by) {
        refusedBy[-by]++;
        last = by;
        return by;
    }

    private void begin(int act) {
        undoWorlds.push(w.copy());
        undoActs.push(act);
        if (undoWorlds.size() > 8) {
            undoWorlds.removeLast();
            undoActs.removeLast();
        }
    }

    private int yes(int answer) {
        w.inTurn();
        last = 0;
        return answer;
    }

    private static boolean in(long v, long a, long b) { return a <= v && v <= b; }
    private boolean g(int x) { return in(x, 0, w.limits.size() - 1); }
    private boolean s(int x) { return in(x, 0, w.stocks.size() - 1); }
    private boolean l(int x) { return in(x, 0, w.loads.size() - 1); }
    private static boolean k(int x) { return in(x, 0, 4); }

    public int guarantor(int limit) {
        if (!in(limit, 0, 9999999)) return no(-1);
        if (w.limits.size() == 4) return no(-5);
        begin(0);
        w.limits.add(limit);
        return yes(w.limits.size() - 1);
    }

    public int limit(int guarantor, int v) {
        if (!in(v, 0, 9999999)) return no(-1);
        if (!g(guarantor)) return no(-2);
        if (v - w.heldBy(guarantor) - w.due[guarantor] < 0) return no(-4);
        begin(1);
        return yes(w.limits.set(guarantor, v));
    }

    public int pay(int guarantor, int amount) {
        if (!in(amount, 1, 9999999)) return no(-1);
        if (!g(guarantor)) return no(-2);
        if (amount > w.due[guarantor]) return no(-4);
        begin(2);
        w.due[guarantor] -= amount;
        w.paidAll[guarantor] += amount;
        return yes(w.due[guarantor]);
    }

    private List<Integer> orderOf(int... of) {
        List<Integer> order = new ArrayList<>();
        for (int x : of) {
            if (x == NONE) continue;
            if (!g(x) || order.contains(x)) return null;
            order.add(x);
        }
        return order;
    }

    public int store(int a, int b, int c) {
        List<Integer> order = orderOf(a, b, c);
        if (order == null) return no(-1);
        if (w.stocks.size() == 6) return no(-5);
        begin(3);
        w.orders.add(order);
        w.stocks.add(new int[5]);
        return yes(w.stocks.size() - 1);
    }

    public int order(int store, int a, int b, int c) {
        List<Integer> order = orderOf(a, b, c);
        if (order == null) return no(-1);
        if (!s(store)) return no(-2);
        begin(4);
        w.orders.set(store, order);
        return yes(0);
    }

    public int stock(int store, int kind, int more) {
        if (!k(kind) || !in(more, 1, 99999)) return no(-1);
        if (!s(store)) return no(-2);
        if (w.stocks.get(store)[kind] + more > 99999) return no(-4);
        begin(5);
        return yes(w.stocks.get(store)[kind] += more);
    }

    public int allows(int kind, int what, int v) {
        if (!k(kind) || !in(what, 0, 1) || !in(v, 0, what == 0 ? 99 : 999)) return no(-1);
        begin(6);
        int[] of = what == 0 ? w.allows : w.caps;
        int was = of[kind];
        of[kind] = v;
        return yes(was);
    }

    public int rate(int kind, int from, int v) {
        if (!k(kind) || !in(from, 0, 9999) || !in(v, 0, 999)) return no(-1);
        if (from < w.day || from == w.day && w.day != 0) return no(-4);
        World tried = w.copy();
        tried.rates.get(kind).put(from, v);
        for (Goods l : tried.loads) if (l.goes() && !tried.anew(l)) return no(-4);
        if (tried.rates.get(kind).size() > 12) return no(-5);
        begin(7);
        int was = w.rateAt(kind, from);
        w = tried;
        return yes(was);
    }

    public int terms(int what, int v) {
        if (!in(what, 0, 1) || !in(v, 0, what == 0 ? 60 : 1)) return no(-1);
        begin(8);
        int was = what == 0 ? w.grace : w.strict;
        if (what == 0) w.grace = v; else w.strict = v;
        return yes(was);
    }

    public int load(int from, int to, int kind, int quantity, int days, int rank) {
        if (!k(kind) || !in(quantity, 1, 9999) || !in(days, 1, 90) || !in(rank, 0, 9)) return no(-1);
        if (!s(from) || !s(to)) return no(-2);
        if (from == to || w.stocks.get(from)[kind] < quantity) return no(-4);
        if (w.loads.size() == 40) return no(-5);
        begin(9);
        Goods l = new Goods();
        l.from = from; l.to = to; l.kind = kind; l.quantity = quantity; l.days = days; l.rank = rank;
        w.stocks.get(from)[kind] -= quantity;
        w.loads.add(l);
        return yes(w.loads.size() - 1);
    }

    public int withdraw(int load) {
        if (!l(load)) return no(-2);
        Goods l = w.loads.get(load);
        if (!l.waits() || w.stocks.get(l.from)[l.kind] + l.quantity > 99999) return no(-4);
        begin(10);
        l.state = 4;
        w.stocks.get(l.from)[l.kind] += l.quantity;
        yes(0);
        return w.waiting().size();
    }

    public int arrive(int load, int quantity, boolean last, int loss) {
        if (!in(quantity, 0, 9999)) return no(-1);
        if (last && !in(loss, 0, 9999)) return no(-1);
        if (!l(load)) return no(-2);
        Goods l = w.loads.get(load);
        if (!l.goes()) return no(-4);
        if (quantity > l.rest()) return no(-4);
        if (w.stocks.get(l.to)[l.kind] + quantity > 99999) return no(-4);
        if (quantity == 0 && !last) return no(-4);
        if (last && (loss < l.begun || loss > w.day || loss > l.latest())) return no(-4);
        begin(11);
        w.arrives(l, quantity, last, loss);
        return yes(l.rest());
    }

    private List<Goods> goingTo(int store, int kind) {
        List<Goods> there = w.going();
        there.removeIf(l -> l.to != store || l.kind != kind);
        return there;
    }

    public int match(int store, int kind, int quantity) {
        if (!k(kind) || !in(quantity, 1, 99999)) return no(-1);
        if (!s(store)) return no(-2);
        int all = 0;
        for (Goods l : goingTo(store, kind)) all += l.rest();
        if (all < quantity || w.stocks.get(store)[kind] + quantity > 99999) return no(-4);
        begin(12);
        int many = 0;
        int left = quantity;
        for (Goods l : goingTo(store, kind)) {
            if (left == 0) break;
            int part = Math.min(left, l.rest());
            w.arrives(l, part, false, 0);
            left -= part;
            many++;
        }
        return yes(many);
    }

    public int split(int load, int quantity, int to) {
        if (!in(quantity, 1, 9999)) return no(-1);
        if (!l(load) || !s(to)) return no(-2);
        Goods l = w.loads.get(load);
        if (!l.goes() || l.came != 0 || quantity >= l.quantity || to == l.from || to == l.to) return no(-4);
        if (w.loads.size() == 40) return no(-5);
        begin(13);
        Goods part = l.copy();
        part.to = to;
        part.quantity = quantity;
        part.splitOf = load;
        part.releasedAll = 0;
        int amount = w.need(part);
        part.heldAll = amount;
        part.held = w.takeFromLast(l, amount);
        l.releasedAll += amount;
        l.quantity -= quantity;
        w.loads.add(part);
        return yes(w.loads.size() - 1);
    }

    public int use(int store, int kind, int quantity) {
        if (!k(kind) || !in(quantity, 1, 99999)) return no(-1);
        if (!s(store)) return no(-2);
        int amount = quantity * w.rateAt(kind, w.day);
        if (w.stocks.get(store)[kind] < quantity || w.freeOf(store) < amount) return no(-4);
        begin(14);
        w.stocks.get(store)[kind] -= quantity;
        int left = amount;
        for (int g : w.orders.get(store)) {
            int part = Math.min(left, w.free(g));
            w.due[g] += part;
            w.dueAll[g] += part;
            left -= part;
        }
        return yes(amount);
    }

    public int shift(int load, int from, int to) {
        if (!l(load) || !g(from) || !g(to)) return no(-2);
        Goods l = w.loads.get(load);
        int amount = l.held[from];
        if (from == to || !l.goes() || w.free(to) < amount || amount == 0) return no(-4);
        begin(16);
        l.held[to] += amount;
        l.held[from] = 0;
        return yes(amount);
    }

    public int extend(int load, int more) {
        if (!in(more, 1, 90)) return no(-1);
        if (!l(load)) return no(-2);
        Goods l = w.loads.get(load);
        if (!l.goes() || l.days + more > 180 || l.latest() + w.grace < w.day) return no(-4);
        World tried = w.copy();
        tried.loads.get(load).days += more;
        if (!tried.anew(tried.loads.get(load))) return no(-4);
        begin(17);
        w = tried;
        return yes(w.loads.get(load).latest());
    }

    public int divert(int load, int to) {
        if (!l(load) || !s(to)) return no(-2);
        Goods l = w.loads.get(load);
        if (!l.goes() || to == l.from || to == l.to) return no(-4);
        begin(18);
        int was = l.to;
        l.to = to;
        return yes(was);
    }

    public int days(int n) {
        if (!in(n, 1, 90)) return no(-1);
        if (w.day + n > 9999) return no(-4);
        begin(15);
        int lost = 0;
        for (int i = 0; i < n; i++) lost += w.passDay();
        last = 0;
        return lost;
    }

    public int undo() {
        if (undoWorlds.isEmpty()) return no(-4);
        last = 0;
        w = undoWorlds.pop();
        return undoActs.pop();
    }

    public int image(int k) {
        if (!in(k, 0, 1)) return no(-1);
        last = 0;
        images[k] = w.copy();
        return w.day;
    }

    public int back(int k) {
        if (!in(k, 0, 1)) return no(-1);
        if (images[k] == null) return no(-4);
        last = 0;
        w = images[k].copy();
        undoWorlds.clear();
        undoActs.clear();
        return w.day;
    }

    public int ofGuarantor(int guarantor, int what) {
        if (!g(guarantor) || !in(what, 0, 3)) return NONE;
        return new int[] {w.limits.get(guarantor), w.heldBy(guarantor), w.due[guarantor], w.free(guarantor)}[what];
    }

    public long total(int guarantor, int what) {
        if (guarantor != NONE && !g(guarantor) || !in(what, 0, 1)) return NONE;
        long[] of = what == 0 ? w.dueAll : w.paidAll;
        return guarantor == NONE ? Arrays.stream(of).sum() : of[guarantor];
    }

    public int ofStore(int store, int what) {
        if (!s(store) || !in(what, 0, 8)) return NONE;
        if (what < 5) return w.stocks.get(store)[what];
        if (what == 5) return w.freeOf(store);
        List<Integer> order = w.orders.get(store);
        return what - 6 < order.size() ? order.get(what - 6) : NONE;
    }

    public int ofLoad(int load, int what) {
        if (!l(load) || !in(what, 0, 14)) return NONE;
        Goods l = w.loads.get(load);
        return new int[] {l.state, l.from, l.to, l.kind, l.quantity, l.days, l.rank, l.begun, l.came,
            l.heldNow(), l.duty, l.missing, l.allowed, w.need(l), l.splitOf}[what];
    }

    public long sums(int load, int what) {
        if (!l(load) || !in(what, 0, 1)) return NONE;
        return what == 0 ? w.loads.get(load).heldAll : w.loads.get(load).releasedAll;
    }

    public int held(int load, int guarantor) {
        return l(load) && g(guarantor) ? w.loads.get(load).held[guarantor] : NONE;
    }

    public int rateOn(int kind, int day) {
        return k(kind) && in(day, 0, 9999) ? w.rateAt(kind, day) : NONE;
    }

    public int allowance(int kind, int q, int t) {
        return k(kind) && in(q, 0, 9999) && in(t, 0, 999) ? w.allowanceFor(kind, q, t) : NONE;
    }

    public int listed(int what, int i) {
        List<Goods> list = new ArrayList<>();
        if (what == 0) list = w.waiting();
        if (what == 1) list = w.going();
        if (what == 2) for (Goods l : w.loads) if (l.goes() && l.latest() < w.day) list.add(l);
        return in(i, 0, list.size() - 1) ? w.loads.indexOf(list.get(i)) : NONE;
    }

    public int room(int store, int kind, int days) {
        if (!s(store) || !k(kind) || !in(days, 1, 90)) return NONE;
        int q = 9999;
        while ((long) q * w.top(kind, w.day, w.day + days) > w.freeOf(store)) q--;
        return q;
    }

    public int cheapest(int kind, int days, int what) {
        if (!k(kind) || !in(days, 1, 180) || !in(what, 0, 1)) return NONE;
        int day = NONE;
        int least = 1000;
        for (int d = w.day; d < w.day + 400; d++) {
            int top = w.top(kind, d, d + days);
            if (top < least) {
                least = top;
                day = d;
            }
        }
        return what == 0 ? day : least;
    }

    public int behind(int guarantor, int what) {
        if (!g(guarantor) || !in(what, 0, 3)) return NONE;
        int[] answer = {0, NONE, NONE, 0};
        int most = 0;
        for (int i = 0; i < w.loads.size(); i++) {
            Goods l = w.loads.get(i);
            int h = l.held[guarantor];
            if (!l.goes() || h == 0) continue;
            answer[0]++;
            if (h > most) {
                most = h;
                answer[1] = i;
            }
            answer[2] = Math.max(answer[2], l.latest());
            if (l.latest() < w.day) answer[3] += h;
        }
        return answer[what];
    }

    private static int goingIn(World world) {
        return world.going().size();
    }

    public int freed(int guarantor, int more) {
        if (!g(guarantor) || !in(more, 1, 9999999)) return NONE;
        World tried = w.copy();
        tried.limits.set(guarantor, tried.limits.get(guarantor) + more);
        tried.inTurn();
        return goingIn(tried) - goingIn(w);
    }

    public int lacks(int guarantor) {
        if (!g(guarantor) || w.waiting().isEmpty()) return NONE;
        int first = w.loads.indexOf(w.waiting().get(0));
        int low = 0;
        int high = 10000000;
        while (low < high) {
            int middle = (low + high) / 2;
            World tried = w.copy();
            tried.limits.set(guarantor, tried.limits.get(guarantor) + middle);
            tried.inTurn();
            if (tried.loads.get(first).goes()) high = middle; else low = middle + 1;
        }
        return low > 9999999 ? NONE : low;
    }

    public int best(int guarantor, int what) {
        if (!g(guarantor) || !in(what, 0, 1)) return NONE;
        List<Goods> those = w.waiting();
        those.removeIf(l -> !w.orders.get(l.from).equals(List.of(guarantor)));
        int n = Math.min(10, those.size());
        int bits = 0;
        int most = 0;
        for (int b = 0; b < 1 << n; b++) {
            int sum = 0;
            for (int i = 0; i < n; i++) if ((b & 1 << i) != 0) sum += w.need(those.get(i));
            if (sum <= w.free(guarantor) && sum > most) {
                most = sum;
                bits = b;
            }
        }
        return what == 0 ? bits : most;
    }

    public int explains(int store, int kind, int quantity, int what) {
        if (!s(store) || !k(kind) || !in(quantity, 1, 99999) || !in(what, 0, 1)) return NONE;
        List<Goods> those = goingTo(store, kind);
        int n = Math.min(12, those.size());
        int bits = NONE;
        int many = NONE;
        for (int b = 1; b < 1 << n; b++) {
            int sum = 0;
            for (int i = 0; i < n; i++) if ((b & 1 << i) != 0) sum += those.get(i).rest();
            int c = Integer.bitCount(b);
            if (sum == quantity && (many == NONE || c < many)) {
                many = c;
                bits = b;
            }
        }
        return what == 0 ? bits : many;
    }

    public int would(int n, int what) {
        if (!in(n, 1, 90) || w.day + n > 9999 || !in(what, 0, 3)) return NONE;
        World tried = w.copy();
        int lost = 0;
        for (int i = 0; i < n; i++) lost += tried.passDay();
        int heldSum = 0;
        for (Goods l : tried.loads) heldSum += l.heldNow();
        return new int[] {Arrays.stream(tried.due).sum(), lost, tried.waiting().size(), heldSum}[what];
    }

    public int dutyIf(int load, int quantity, int loss) {
        if (!l(load) || !w.loads.get(load).goes()) return NONE;
        World tried = w.copy();
        Goods l = tried.loads.get(load);
        if (!in(quantity, 0, l.rest()) || !in(loss, l.begun, Math.min(w.day, l.latest()))) return NONE;
        tried.arrives(l, quantity, true, loss);
        return l.duty;
    }

    public int dayOf(int load, int what) {
        if (!l(load) || !w.loads.get(load).goes() || !in(what, 0, 1)) return NONE;
        Goods l = w.loads.get(load);
        int day = l.begun;
        for (int d = l.begun; d <= w.day && d <= l.latest(); d++) {
            int here = w.rateAt(l.kind, d);
            int there = w.rateAt(l.kind, day);
            if (what == 0 ? here < there : here > there) day = d;
        }
        return day;
    }

    public int count(int what) {
        if (what == 0) return w.day;
        if (what == 1) return w.limits.size();
        if (what == 2) return w.stocks.size();
        if (what == 3) return w.loads.size();
        if (in(what, 4, 8)) return (int) w.loads.stream().filter(l -> l.state == what - 4).count();
        if (what == 9) return w.loads.stream().mapToInt(Goods::heldNow).sum();
        if (what == 10) return Arrays.stream(w.due).sum();
        if (what == 11) return w.stocks.stream().mapToInt(s -> Arrays.stream(s).sum()).sum();
        if (what == 12) return undoWorlds.size();
        if (what == 13) return w.grace;
        if (what == 14) return w.strict;
        if (in(what, 15, 18)) return refusedBy[new int[] {1, 2, 4, 5}[what - 15]];
        return NONE;
    }

    public int status() {
        return last;
    }
}
