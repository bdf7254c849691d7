import java.lang.reflect.Method;
import java.util.ArrayList;
import java.util.Arrays;
import java.util.List;
import java.util.Map;
import java.util.Random;
import java.util.Set;
import java.util.TreeMap;

/**
 * Long runs of calls, drawn by fixed seeds, on BondStores and on SlowBook: all answers are alike. No
 * BondStores gets more than its 512 calls: a new one is then brought to the same state by the same acts.
 */
public final class SideBySideTest {
    private static final String[] ACTS = {
        "guarantor", "limit", "pay", "store", "order", "stock", "allows", "rate", "terms", "load",
        "withdraw", "arrive", "match", "split", "use", "shift", "extend", "divert", "days", "undo",
        "image", "back"};
    private static final Set<String> ACT_NAMES = Set.of(ACTS);
    private static final int[] WEIGHTS = {
        1, 6, 6, 2, 4, 8, 4, 14, 5, 60, 5, 26, 9, 14, 6, 12, 9, 7, 16, 5, 2, 1};
    private static final int LIFE = 512;
    private static final Map<String, Method> FAST = methodsOf(BondStores.class);
    private static final Map<String, Method> SLOW = methodsOf(SlowBook.class);

    private final Random dice;
    private BondStores fast = new BondStores();
    private int used;
    private final List<Object[]> acts = new ArrayList<>();
    private final SlowBook slow = new SlowBook();
    private final String run;
    private final int money;
    private final int rates;
    private final int quantities;
    private final int span;
    private final StringBuilder told = new StringBuilder();

    private SideBySideTest(int seed) {
        dice = new Random(seed);
        run = "seed " + seed;
        money = new int[] {900, 9000, 90000, 900000, 9999999}[seed % 5];
        rates = new int[] {3, 30, 999}[seed / 5 % 3];
        quantities = new int[] {6, 60, 9999}[seed / 15 % 3];
        span = new int[] {3, 12, 90}[dice.nextInt(3)];
    }

    private static Map<String, Method> methodsOf(Class<?> type) {
        Map<String, Method> found = new TreeMap<>();
        for (Method m : type.getDeclaredMethods()) {
            if (java.lang.reflect.Modifier.isPublic(m.getModifiers())) {
                found.put(m.getName(), m);
            }
        }
        return found;
    }

    public static void main(String[] args) throws Exception {
        int runs = args.length > 0 ? Integer.parseInt(args[0]) : 180;
        int first = args.length > 1 ? Integer.parseInt(args[1]) : 0;
        TreeMap<String, Integer> answers = new TreeMap<>();
        for (int seed = first; seed < first + runs && !Check.anyWrong(); seed++) {
            new SideBySideTest(seed).play(answers);
        }
        if (args.length > 0) {
            answers.forEach((what, many) -> System.out.println(what + ": " + many));
        }
        Check.end("SideBySideTest");
    }

    private void play(Map<String, Integer> answers) throws Exception {
        if (pick(8) == 0) {
            for (int i = 0; i < 109; i++) {
                both("days", 90);
            }
        }
        setUp();
        for (int i = 0; i < 220 && !Check.anyWrong(); i++) {
            String act = drawAct();
            long answer = both(act, argumentsOf(act));
            answers.merge(act + (answer < 0 ? " " + answer : " done"), 1, Integer::sum);
            for (int j = 0; j < 6; j++) {
                askSomething(answers);
            }
            if (i % 20 == 19) {
                askAll();
            }
        }
        if (Check.anyWrong()) {
            System.out.println(told);
        }
    }

    private void setUp() throws Exception {
        int guarantors = 1 + pick(4);
        for (int i = 0; i < guarantors; i++) {
            both("guarantor", money / 2 + upTo(money / 2));
        }
        int stores = 3 + pick(3);
        for (int i = 0; i < 20 && slow.count(2) < stores; i++) {
            both("store", argumentsOf("store"));
        }
        for (int i = 0; i < stores; i++) {
            both("stock", i, pick(2), 1 + pick(20000));
            both("stock", i, pick(2), 1 + pick(70000));
        }
        for (int i = 0; i < 2; i++) {
            both("rate", i, now() == 0 ? 0 : now() + 1, upTo(rates));
            both("allows", i, 0, pick(100));
            both("allows", i, 1, pick(1000));
        }
    }

    private String drawAct() {
        int left = pick(Arrays.stream(WEIGHTS).sum());
        for (int i = 0; i < ACTS.length; i++) {
            left -= WEIGHTS[i];
            if (left < 0) {
                return ACTS[i];
            }
        }
        return "days";
    }

    private Object[] argumentsOf(String act) {
        switch (act) {
            case "guarantor": return new Object[] {edged(upTo(money), 0, 9999999)};
            case "limit": {
                int g = someGuarantor();
                int least = slow.ofGuarantor(g, 1) + slow.ofGuarantor(g, 2);
                return new Object[] {g, pick(3) == 0 ? Math.max(0, least + pick(5) - 2) : edged(upTo(money), 0, 9999999)};
            }
            case "pay": {
                int g = someGuarantor();
                return new Object[] {g, edged(1 + upTo(Math.max(1, slow.ofGuarantor(g, 2))), 1, 9999999)};
            }
            case "store": return new Object[] {someOrder(), someOrder(), someOrder()};
            case "order": return new Object[] {someStore(), someOrder(), someOrder(), someOrder()};
            case "stock": return new Object[] {someStore(), someKind(), edged(1 + pick(pick(9) == 0 ? 99999 : 2000), 1, 99999)};
            case "allows": {
                int what = edged(pick(2), 0, 1);
                return new Object[] {someKind(), what, what == 0 ? edged(pick(100), 0, 99) : edged(pick(1000), 0, 999)};
            }
            case "rate": return new Object[] {someKind(), edged(now() + pick(30) - (pick(6) == 0 ? 3 : 0), 0, 9999), edged(upTo(rates), 0, 999)};
            case "terms": {
                int what = edged(pick(2), 0, 1);
                return new Object[] {what, what == 0 ? edged(pick(31), 0, 60) : edged(pick(2), 0, 1)};
            }
            case "load": return new Object[] {someStore(), someStore(), someKind(), someQuantity(), someDays(), edged(pick(10), 0, 9)};
            case "withdraw": return new Object[] {pick(3) == 0 ? someLoad() : aLoadThat(0)};
            case "arrive": return arrival();
            case "match": return new Object[] {someStore(), someKind(), pick(12) == 0 ? edged(1, 1, 99999) : 1 + pick(3 * quantities)};
            case "split": {
                int load = aLoadThat(1);
                return new Object[] {load, pick(4) == 0 ? someQuantity() : pick(Math.max(2, slow.ofLoad(load, 4) + 1)), someStore()};
            }
            case "use": return new Object[] {someStore(), someKind(), edged(1 + pick(100), 1, 99999)};
            case "shift": {
                int load = aLoadThat(1);
                int from = someGuarantor();
                for (int i = 0; i < 5 && slow.held(load, from) < 1; i++) {
                    from = someGuarantor();
                }
                return new Object[] {load, from, someGuarantor()};
            }
            case "extend": return new Object[] {aLoadThat(1), edged(1 + pick(pick(3) == 0 ? 90 : 9), 1, 90)};
            case "divert": return new Object[] {aLoadThat(1), someStore()};
            case "days": return new Object[] {edged(1 + pick(pick(8) == 0 ? 90 : 5), 1, 90)};
            case "image": case "back": return new Object[] {edged(pick(2), 0, 1)};
            default: return new Object[] {};
        }
    }

    private Object[] arrival() {
        int load = aLoadThat(1);
        int rest = Math.max(0, slow.ofLoad(load, 4) - slow.ofLoad(load, 8));
        int quantity = new int[] {rest, rest + 1, pick(rest + 1), pick(rest + 1), 0, edged(1, 0, 9999)}[pick(6)];
        int begun = Math.max(0, slow.ofLoad(load, 7));
        int loss = begun + pick(Math.max(1, now() - begun + 1));
        if (pick(6) == 0) {
            loss = new int[] {begun - 1, now() + 1, NO_DAY, 10000, Integer.MAX_VALUE, slow.ofLoad(load, 7) + slow.ofLoad(load, 5) + 1}[pick(6)];
        }
        return new Object[] {load, quantity, pick(2) == 0, loss};
    }

    private static final int NO_DAY = -1;

    private void askSomething(Map<String, Integer> answers) throws Exception {
        int store = someStore();
        int kind = someKind();
        int load = pick(2) == 0 ? aLoadThat(1) : someLoad();
        int guarantor = someGuarantor();
        int what = pick(5) - (pick(9) == 0 ? 1 : 0);
        int begun = slow.ofLoad(load, 7);
        String name;
        long answer;
        switch (pick(14)) {
            case 0: name = "room"; answer = both(name, store, kind, someDays()); break;
            case 1: name = "cheapest"; answer = both(name, kind, edged(1 + pick(180), 1, 180), pick(3)); break;
            case 2: name = "behind"; answer = both(name, guarantor, what); break;
            case 3: name = "freed"; answer = both(name, guarantor, edged(1 + upTo(money), 1, 9999999)); break;
            case 4: name = "lacks"; answer = both(name, guarantor); break;
            case 5: name = "best"; answer = both(name, guarantor, pick(3)); break;
            case 6: case 7: name = "explains"; answer = both(name, store, kind, edged(explained(store, kind), 1, 99999), pick(3)); break;
            case 8: name = "would"; answer = both(name, edged(1 + pick(90), 1, 90), what); break;
            case 9: name = "dutyIf"; answer = both(name, load, pick(Math.max(1, slow.ofLoad(load, 4))), begun + pick(12) - 1); break;
            case 10: name = "dayOf"; answer = both(name, load, pick(3)); break;
            case 11: name = "allowance"; answer = both(name, kind, edged(pick(10000), 0, 9999), edged(pick(1000), 0, 999)); break;
            case 12: name = "rateOn"; answer = both(name, kind, edged(now() + pick(40), 0, 9999)); break;
            default: name = "listed"; answer = both(name, what, pick(6) - 1); break;
        }
        answers.merge("? " + name + (answer < 0 ? " none" : answer == 0 ? " 0" : " some"), 1, Integer::sum);
    }

    /** What some of the LOADS on their way there have as REST: else hardly a sum would fit. */
    private int explained(int store, int kind) {
        int sum = 0;
        for (int i = 0; i < slow.count(3); i++) {
            boolean goesThere = slow.ofLoad(i, 0) == 1 && slow.ofLoad(i, 2) == store && slow.ofLoad(i, 3) == kind;
            if (goesThere && pick(3) == 0) {
                sum += slow.ofLoad(i, 4) - slow.ofLoad(i, 8);
            }
        }
        return sum;
    }

    private void askAll() throws Exception {
        for (int what = -1; what <= 19; what++) {
            both("count", what);
        }
        both("status");
        for (int g = -2; g <= 4; g++) {
            for (int what = -1; what <= 4; what++) {
                both("ofGuarantor", g, what);
                both("total", g, what);
                both("behind", g, what);
            }
        }
        for (int s = -1; s <= 6; s++) {
            for (int what = -1; what <= 9; what++) {
                both("ofStore", s, what);
            }
        }
        for (int l = -1; l <= slow.count(3); l++) {
            for (int what = -1; what <= 15; what++) {
                both("ofLoad", l, what);
            }
            for (int x = -1; x <= 4; x++) {
                both("sums", l, x);
                both("held", l, x);
                both("dayOf", l, x);
            }
        }
        for (int what = -1; what <= 3; what++) {
            for (int i = -1; i <= 40; i++) {
                both("listed", what, i);
            }
        }
    }

    private long both(String name, Object... args) throws Exception {
        if (used == LIFE) {
            renew();
        }
        used++;
        long got = ((Number) FAST.get(name).invoke(fast, args)).longValue();
        long want = ((Number) SLOW.get(name).invoke(slow, args)).longValue();
        String call = name + Arrays.toString(args);
        if (ACT_NAMES.contains(name)) {
            acts.add(new Object[] {name, args});
            told.append(call).append(" -> ").append(want).append('\n');
        }
        Check.due(run + ": " + call, got, want);
        return want;
    }

    private void renew() throws Exception {
        fast = new BondStores();
        for (Object[] act : acts) {
            FAST.get((String) act[0]).invoke(fast, (Object[]) act[1]);
        }
        used = acts.size();
        Check.isTrue(run + ": room is left to ask in", used < LIFE);
    }

    private int pick(int n) { return dice.nextInt(n); }
    private int upTo(int n) { return dice.nextInt(n + 1); }
    private int now() { return slow.count(0); }
    private int someGuarantor() { return pick(12) == 0 ? pick(7) - 2 : pick(Math.max(1, slow.count(1))); }
    private int someStore() { return pick(15) == 0 ? pick(9) - 2 : pick(Math.max(1, slow.count(2))); }
    private int someLoad() { return pick(12) == 0 ? pick(44) - 2 : pick(Math.max(1, slow.count(3))); }
    private int someKind() { return pick(20) == 0 ? pick(7) - 1 : pick(2); }
    private int someOrder() { return pick(3) == 0 ? -1 : pick(12) == 0 ? pick(8) - 3 : pick(Math.max(1, slow.count(1))); }
    private int someDays() { return edged(1 + pick(pick(4) == 0 ? 90 : span), 1, 90); }
    private int someQuantity() { return pick(20) == 0 ? edged(1, 1, 9999) : 1 + pick(pick(9) == 0 ? 9999 : quantities); }

    private int aLoadThat(int state) {
        for (int i = 0; i < 30; i++) {
            int load = someLoad();
            if (slow.ofLoad(load, 0) == state) {
                return load;
            }
        }
        return someLoad();
    }

    /** Now and then a bound, or the number just beyond it, in place of v. */
    private int edged(int v, int least, int most) {
        switch (pick(40)) {
            case 0: return least;
            case 1: return least - 1;
            case 2: return most;
            case 3: return most + 1;
            case 4: return pick(2) == 0 ? Integer.MIN_VALUE : Integer.MAX_VALUE;
            default: return v;
        }
    }
}
