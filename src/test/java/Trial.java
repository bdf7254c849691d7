import java.util.ArrayList;
import java.util.Arrays;
import java.util.List;

/**
 * One run of calls with what is due of each. A refused call must leave all else as it was: so all
 * readings, all undos and both images are held against those of a run that never had that call.
 * No object gets more than its 512 calls: what is left to ask is asked of a new one, brought to
 * the same state by the same calls.
 */
final class Trial {
    /** One call on an object. */
    interface Call {
        long on(BondStores x);
    }

    /** One call with a number that is still to be told. */
    interface CallWith {
        long on(BondStores x, int v);
    }

    private record Reading(String name, Call call) {
    }

    static final int NONE = BondStores.NONE;
    static final int BAD = -1;
    static final int MISSING = -2;
    static final int CANNOT = -4;
    static final int FULL = -5;
    private static final int[] REASONS = {BAD, MISSING, CANNOT, FULL};
    private static final int LIFE = 512;
    private static final int UNDOS = 8;
    private static final List<Reading> READINGS = allReadings();
    private static final List<Trial> TRIALS = new ArrayList<>();

    private final String sentence;
    /** The acts that were not refused. */
    private final List<Call> done = new ArrayList<>();
    /** All acts, the refused ones among them. */
    private final List<Call> told = new ArrayList<>();
    private final int[] refusals = new int[REASONS.length];
    private BondStores object = new BondStores();
    private int used;
    private long[] wholeDone;

    Trial(String sentence) {
        this.sentence = sentence;
        TRIALS.add(this);
    }

    /**
     * GUARANTORS 0 (LIMIT 1,000), 1 (500); STORES 0 (of both), 1 (of the second), 2 (of none);
     * RATE 2 of KIND 0; 5,000 of it in STORES 0 and 1.
     */
    static Trial small(String sentence) {
        return new Trial(sentence).with(
            x -> x.guarantor(1000), x -> x.guarantor(500),
            x -> x.store(0, 1, NONE), x -> x.store(1, NONE, NONE), x -> x.store(NONE, NONE, NONE),
            x -> x.rate(0, 0, 2), x -> x.stock(0, 0, 5000), x -> x.stock(1, 0, 5000));
    }

    /** The small one on DAY 2, STRICT and GRACE 0, with five LOADS of KIND 0: the number of each is its STATE. */
    static Trial states(String sentence) {
        return small(sentence).with(
            x -> x.terms(1, 0), x -> x.terms(0, 0),
            x -> x.load(1, 0, 0, 300, 5, 5), x -> x.load(0, 1, 0, 100, 90, 6),
            x -> x.load(0, 1, 0, 10, 5, 7), x -> x.load(0, 1, 0, 10, 1, 8), x -> x.load(1, 0, 0, 400, 5, 9),
            x -> x.arrive(2, 10, false, 0), x -> x.days(2), x -> x.withdraw(4));
    }

    /**
     * All places taken: 4 GUARANTORS, 6 STORES, 12 RATES of KIND 0 (1 or 2), 40 LOADS of 10, of
     * which the even ones GO from STORE 0 to 1 and the odd ones WAIT from 5 (of no GUARANTOR) to
     * 0, 8 acts to undo, both IMAGES.
     */
    static Trial full(String sentence) {
        return new Trial(sentence).withEach(0, 3, (x, i) -> x.guarantor(9000)).with(
            x -> x.store(0, 1, 2), x -> x.store(3, NONE, NONE), x -> x.store(1, NONE, NONE),
            x -> x.store(2, 3, NONE), x -> x.store(3, 0, 1), x -> x.store(NONE, NONE, NONE))
            .withEach(0, 11, (x, i) -> x.rate(0, 10 * i, 1 + i % 2)).with(x -> x.terms(1, 0))
            .with(x -> x.stock(0, 0, 99999), x -> x.stock(5, 0, 99999), x -> x.image(0))
            .withEach(0, 39, (x, i) -> x.load(i % 2 * 5, 1 - i % 2, 0, 10, 90, 5)).with(x -> x.image(1));
    }

    /** Another run from here on, with the same calls behind it. */
    Trial fork() {
        Trial other = new Trial(sentence);
        other.done.addAll(done);
        other.told.addAll(told);
        System.arraycopy(refusals, 0, other.refusals, 0, refusals.length);
        other.renew();
        return other;
    }

    /** Acts that lead to what is looked at: none of them is refused. */
    Trial with(Call... calls) {
        for (Call c : calls) {
            long answer = call(c);
            holds("an act on the way answered " + answer, answer >= 0);
            keep(c);
        }
        return this;
    }

    /** The same act with each number from first to last. */
    Trial withEach(int first, int last, CallWith call) {
        for (int i = first; i <= last; i++) {
            int v = i;
            with(x -> call.on(x, v));
        }
        return this;
    }

    /** An act that is not refused. */
    Trial act(long want, Call c) {
        due("the act", call(c), want);
        keep(c);
        tellsOf(0);
        return this;
    }

    /** An act that is refused, and changes nothing but what is told of it. */
    Trial refused(int by, Call c) {
        due("the refused act", call(c), by);
        told.add(c);
        for (int i = 0; i < REASONS.length; i++) {
            refusals[i] += REASONS[i] == by ? 1 : 0;
        }
        tellsOf(by);
        if (wholeDone == null) {
            wholeDone = whole(done);
        }
        same("it changed", whole(told), wholeDone);
        return this;
    }

    /** One beyond each bound, and as far beyond as it goes, it is refused by -1; at the bounds it is not. */
    Trial bounds(int least, int most, CallWith call) {
        for (int v : beyond(least, most)) {
            refused(BAD, x -> call.on(x, v));
        }
        for (int v : new int[] {least, most}) {
            Trial other = fork();
            long answer = other.call(x -> call.on(x, v));
            holds("at the bound " + v + " it answered " + answer, answer >= 0);
            other.keep(x -> call.on(x, v));
            other.tellsOf(0);
        }
        return this;
    }

    /** There are so many of what is told by its number: none below 0, none from there on. */
    Trial missing(int many, CallWith call) {
        for (int v : beyond(0, many - 1)) {
            refused(MISSING, x -> call.on(x, v));
        }
        return this;
    }

    /** An act that is not refused, and one that takes it back: behind both all is as it was. */
    Trial takenBack(Call c, Call backwards, long want) {
        long[] was = whole(told);
        Trial other = fork().with(c);
        int seen = Arrays.mismatch(whole(other.told), was);
        holds("the act can be seen by more than how many can be undone", seen >= 0 && seen < READINGS.size() - 1);
        other.act(want, backwards);
        same("taken back, it changed", whole(other.told), was);
        return this;
    }

    /** What a question is answered. */
    Trial reads(long want, Call c) {
        due("the question", call(c), want);
        return this;
    }

    /** What a question is answered with 0, 1 and so on. */
    Trial readsEach(CallWith question, int... want) {
        for (int i = 0; i < want.length; i++) {
            int v = i;
            reads(want[i], x -> question.on(x, v));
        }
        return this;
    }

    /** All readings, but how many can be undone, are those of another run. */
    Trial readsAs(Trial other) {
        long[] got = whole(told);
        long[] want = whole(other.told);
        got[READINGS.size() - 1] = want[READINGS.size() - 1];
        same("unlike the other run", got, want);
        return this;
    }

    /** One beyond each bound, and as far beyond as it goes, there is no answer; at the bounds there is. */
    Trial answersWithin(int least, int most, CallWith question) {
        for (int v : beyond(least, most)) {
            due("beyond a bound, with " + v, call(x -> question.on(x, v)), NONE);
        }
        for (int v : new int[] {least, most}) {
            long answer = call(x -> question.on(x, v));
            holds("at the bound " + v + " it answered " + answer, answer != NONE);
        }
        return this;
    }

    /** Questions tell nothing anew of refused calls, and change nothing. */
    Trial asksOnly(Call... questions) {
        List<Call> asked = new ArrayList<>(told);
        asked.addAll(List.of(questions));
        same("a question changed", whole(asked), whole(told));
        BondStores y = played(asked);
        due("status behind the questions", y.status(), call(BondStores::status));
        for (int i = 0; i < REASONS.length; i++) {
            due("refusals behind the questions", y.count(15 + i), refusals[i]);
        }
        return this;
    }

    /** Ends all trials, and tells how it went. */
    static void end(String name) {
        for (Trial t : TRIALS) {
            t.undoesAsIfNeverRefused();
        }
        Check.end(name);
    }

    /** A refused call can't be seen in what is undone later, nor in the images. */
    private void undoesAsIfNeverRefused() {
        if (told.size() == done.size()) {
            return;
        }
        List<Call> undone = new ArrayList<>();
        for (int i = 0; i <= UNDOS; i++) {
            undone.add(BondStores::undo);
            sameBehind(undone);
        }
        sameBehind(List.of(x -> x.back(0)));
        sameBehind(List.of(x -> x.back(1)));
    }

    private void sameBehind(List<Call> more) {
        List<Call> a = new ArrayList<>(told);
        List<Call> b = new ArrayList<>(done);
        Call last = more.get(more.size() - 1);
        a.addAll(more.subList(0, more.size() - 1));
        b.addAll(more.subList(0, more.size() - 1));
        due("behind what was refused", last.on(played(a)), last.on(played(b)));
        a.add(last);
        b.add(last);
        same("behind what was refused, undo or back changed", whole(a), whole(b));
    }

    private void tellsOf(int by) {
        due("status", call(BondStores::status), by);
        for (int i = 0; i < REASONS.length; i++) {
            int what = 15 + i;
            due("how many were refused by " + REASONS[i], call(x -> x.count(what)), refusals[i]);
        }
    }

    private void keep(Call c) {
        done.add(c);
        told.add(c);
        wholeDone = null;
    }

    private long call(Call c) {
        if (used >= LIFE) {
            renew();
        }
        used++;
        return c.on(object);
    }

    private void renew() {
        object = played(told);
        used = told.size();
        if (used >= LIFE) {
            throw new IllegalStateException("no room is left to ask in");
        }
    }

    private static BondStores played(List<Call> calls) {
        BondStores y = new BondStores();
        for (Call c : calls) {
            c.on(y);
        }
        return y;
    }

    private static long[] whole(List<Call> calls) {
        if (calls.size() >= LIFE) {
            throw new IllegalStateException("no room is left to read in");
        }
        long[] answers = new long[READINGS.size()];
        int next = 0;
        while (next < answers.length) {
            BondStores y = played(calls);
            for (int i = calls.size(); i < LIFE && next < answers.length; i++) {
                answers[next] = READINGS.get(next).call().on(y);
                next++;
            }
        }
        return answers;
    }

    private void same(String what, long[] got, long[] want) {
        int i = Arrays.mismatch(got, want);
        due(what + (i < 0 ? " nothing" : " " + READINGS.get(i).name()), i < 0 ? 0 : got[i], i < 0 ? 0 : want[i]);
    }

    private void due(String what, long got, long want) {
        Check.due(got == want ? "" : where() + what, got, want);
    }

    private void holds(String what, boolean holds) {
        due(what, holds ? 1 : 0, 1);
    }

    private String where() {
        for (StackTraceElement e : new Throwable().getStackTrace()) {
            if (!e.getClassName().startsWith("Trial")) {
                return sentence + " (" + e.getFileName() + ":" + e.getLineNumber() + "): ";
            }
        }
        return sentence + ": ";
    }

    private static int[] beyond(int least, int most) {
        return new int[] {least - 1, most + 1, Integer.MIN_VALUE, Integer.MAX_VALUE};
    }

    private static List<Reading> allReadings() {
        List<Reading> all = new ArrayList<>();
        for (int what = 0; what <= 14; what++) {
            if (what != 12) {
                read(all, "count", (x, a, b) -> x.count(a), what, 0);
            }
        }
        for (int g = 0; g < 4; g++) {
            for (int what = 0; what < 4; what++) {
                read(all, "ofGuarantor", BondStores::ofGuarantor, g, what);
            }
            read(all, "total", BondStores::total, g, 0);
            read(all, "total", BondStores::total, g, 1);
        }
        for (int s = 0; s < 6; s++) {
            for (int what = 0; what <= 8; what++) {
                read(all, "ofStore", BondStores::ofStore, s, what);
            }
        }
        for (int l = 0; l < 40; l++) {
            for (int what = 0; what <= 14; what++) {
                read(all, "ofLoad", BondStores::ofLoad, l, what);
            }
            for (int i = 0; i < 4; i++) {
                read(all, "held", BondStores::held, l, i);
                read(all, "sums", BondStores::sums, l, i % 2);
            }
        }
        for (int kind = 0; kind < 5; kind++) {
            for (int day = 0; day < 220; day++) {
                read(all, "rateOn", BondStores::rateOn, kind, day < 200 ? day : 9780 + day);
            }
            read(all, "allowance", (x, a, t) -> x.allowance(a, 9999, t), kind, 1);
            read(all, "allowance", (x, a, t) -> x.allowance(a, 9999, t), kind, 999);
        }
        read(all, "count", (x, a, b) -> x.count(a), 12, 0);
        return all;
    }

    private interface Asked {
        long of(BondStores x, int a, int b);
    }

    private static void read(List<Reading> all, String name, Asked asked, int a, int b) {
        all.add(new Reading(name + "(" + a + ", " + b + ")", x -> asked.of(x, a, b)));
    }
}
