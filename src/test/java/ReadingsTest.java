import java.util.Arrays;

/** Promises 24 to 44, question by question: at each bound, beside it, with nothing there, with all places taken. */
public final class ReadingsTest {
    private static final int NONE = Trial.NONE;
    private static final int BAD = Trial.BAD;
    private static final int MISSING = Trial.MISSING;
    private static final int CANNOT = Trial.CANNOT;
    private static final int FULL = Trial.FULL;

    private ReadingsTest() {
    }

    public static void main(String[] args) {
        questionsOfANewObject();
        questionsChangeNothing();
        ofGuarantor();
        total();
        totalAboveAnInt();
        ofStore();
        ofLoad();
        ofLoadThatWaits();
        sums();
        held();
        rateOn();
        allowance();
        listed();
        listedLate();
        listedFull();
        listedForty();
        room();
        roomAsides();
        cheapest();
        cheapestOf400();
        cheapestOnLastDays();
        behind();
        behindLate();
        freed();
        freedMost();
        lacks();
        lacksMost();
        best();
        bestOfTen();
        bestOfSomeWaiting();
        explains();
        explainsOfTwelve();
        explainsMost();
        would();
        wouldOnLastDays();
        dutyIf();
        dutyIfLate();
        dayOf();
        count();
        countFull();
        status();
        Trial.end("ReadingsTest");
    }

    private static void questionsOfANewObject() {
        Trial t = new Trial("24 .. 44, with nothing there").reads(0, x -> x.status());
        for (int w = -1; w <= 19; w++) {
            int what = w;
            t.reads(NONE, x -> x.ofGuarantor(0, what)).reads(NONE, x -> x.ofStore(0, what))
                .reads(NONE, x -> x.ofLoad(0, what));
            t.reads(NONE, x -> x.behind(0, what)).reads(NONE, x -> x.best(0, what))
                .reads(NONE, x -> x.explains(0, 0, 1, what));
            t.reads(NONE, x -> x.sums(0, what)).reads(NONE, x -> x.dayOf(0, what)).reads(NONE, x -> x.listed(what, 0));
            t.reads(NONE, x -> x.total(0, what)).reads(what == 0 || what == 1 ? 0 : NONE, x -> x.total(NONE, what));
            t.reads(what == 0 || what == 1 ? 0 : NONE, x -> x.cheapest(0, 1, what));
            t.reads(what >= 0 && what <= 3 ? 0 : NONE, x -> x.would(90, what));
            t.reads(what == 13 ? 30 : what == 14 ? 1 : what >= 0 && what <= 18 ? 0 : NONE, x -> x.count(what));
        }
        t.reads(NONE, x -> x.held(0, 0)).reads(NONE, x -> x.room(0, 0, 1)).reads(NONE, x -> x.freed(0, 1))
            .reads(NONE, x -> x.lacks(0));
        t.reads(NONE, x -> x.dutyIf(0, 0, 0)).reads(0, x -> x.rateOn(0, 0)).reads(0, x -> x.allowance(4, 9999, 999));
    }

    private static void questionsChangeNothing() {
        Trial[] trials = {new Trial("44. status: of no question, on a new object"),
            Trial.full("44. status: of no question, all places taken"),
            Trial.states("44. status: of no question").refused(MISSING, x -> x.withdraw(9))};
        for (Trial t : trials) {
            t.asksOnly(x -> x.ofGuarantor(9, 9), x -> x.ofGuarantor(0, 0), x -> x.total(9, 0), x -> x.total(NONE, 0),
                x -> x.ofStore(9, 9),
                x -> x.ofStore(0, 5), x -> x.ofLoad(99, 0), x -> x.ofLoad(0, 13), x -> x.sums(99, 0),
                x -> x.held(99, 0), x -> x.rateOn(9, 9),
                x -> x.allowance(9, 9, 9), x -> x.listed(0, 0), x -> x.listed(1, 0), x -> x.listed(2, 99),
                x -> x.room(0, 0, 90), x -> x.room(0, 0, 0),
                x -> x.cheapest(0, 180, 0), x -> x.cheapest(9, 1, 0), x -> x.behind(0, 3), x -> x.behind(9, 0),
                x -> x.count(-1), x -> x.status());
            t.asksOnly(x -> x.freed(0, 9999999), x -> x.freed(1, 9999999), x -> x.freed(0, 0), x -> x.lacks(0),
                x -> x.lacks(1), x -> x.lacks(9),
                x -> x.best(0, 0), x -> x.best(1, 1), x -> x.best(1, 2), x -> x.explains(1, 0, 100, 0),
                x -> x.explains(1, 0, 0, 0),
                x -> x.would(90, 0), x -> x.would(90, 3), x -> x.would(91, 0), x -> x.dutyIf(0, 0, 0),
                x -> x.dutyIf(1, 10, 1),
                x -> x.dayOf(1, 0), x -> x.dayOf(0, 1), x -> x.dayOf(1, 9));
        }
    }

    private static void ofGuarantor() {
        Trial t = Trial.small("24. ofGuarantor: LIMIT (what 0), HELD (1), DUE (2), FREE (3). NONE for others");
        t.with(x -> x.load(0, 1, 0, 100, 5, 0), x -> x.use(0, 0, 30));
        t.answersWithin(0, 1, (x, v) -> x.ofGuarantor(v, 0)).answersWithin(0, 3, (x, v) -> x.ofGuarantor(1, v));
        t.readsEach((x, what) -> x.ofGuarantor(0, what), 1000, 200, 60, 740, NONE);
        t.readsEach((x, what) -> x.ofGuarantor(1, what), 500, 0, 0, 500, NONE);
        t.readsEach((x, what) -> x.ofGuarantor(2, what), NONE, NONE, NONE, NONE, NONE);
        t.readsEach((x, what) -> x.ofGuarantor(NONE, what), NONE, NONE, NONE, NONE, NONE);
        Trial.full("24. ofGuarantor, all places taken").answersWithin(0, 3, (x, v) -> x.ofGuarantor(v, 3));
    }

    private static void total() {
        Trial t = Trial.small(
            "25. total: what became DUE in all (what 0), was paid in all (1), of all, if NONE. NONE for others");
        t.with(x -> x.use(0, 0, 600), x -> x.pay(0, 400), x -> x.pay(1, 50), x -> x.use(0, 0, 10),
            x -> x.load(1, 0, 0, 10, 5, 0), x -> x.arrive(0, 9, true, 0));
        t.answersWithin(-1, 1, (x, v) -> x.total(v, 0)).answersWithin(0, 1, (x, v) -> x.total(NONE, v))
            .answersWithin(0, 1, (x, v) -> x.total(1, v));
        t.reads(1020, x -> x.total(0, 0)).reads(202, x -> x.total(1, 0)).reads(1222, x -> x.total(NONE, 0));
        t.reads(400, x -> x.total(0, 1)).reads(50, x -> x.total(1, 1)).reads(450, x -> x.total(NONE, 1));
        t.reads(NONE, x -> x.total(2, 0)).reads(NONE, x -> x.total(-2, 0)).reads(NONE, x -> x.total(-2, 2))
            .reads(NONE, x -> x.total(NONE, 2));
    }

    private static void totalAboveAnInt() {
        Trial t = new Trial("25. total, above what an int holds")
            .with(x -> x.guarantor(9999999), x -> x.store(0, NONE, NONE), x -> x.rate(0, 0, 999));
        for (int i = 0; i < 24; i++) {
            t.with(x -> x.stock(0, 0, 90090));
            for (int j = 0; j < 9; j++) {
                t.with(x -> x.use(0, 0, 10010), x -> x.pay(0, 9999990));
            }
        }
        t.reads(2159997840L, x -> x.total(0, 0)).reads(2159997840L, x -> x.total(0, 1))
            .reads(2159997840L, x -> x.total(NONE, 0)).reads(2159997840L, x -> x.total(NONE, 1));
    }

    private static void ofStore() {
        Trial t = Trial.small(
            "26. ofStore: STOCK of a KIND (what 0 .. 4), FREE together (5), its GUARANTORS (6 .. 8; "
            + "NONE). NONE for others");
        t.with(x -> x.guarantor(30), x -> x.order(2, 2, 0, 1), x -> x.load(0, 1, 0, 100, 5, 0))
            .withEach(0, 4, (x, i) -> x.stock(2, i, 11 + i));
        t.answersWithin(0, 8, (x, v) -> x.ofStore(2, v)).answersWithin(0, 2, (x, v) -> x.ofStore(v, 0))
            .answersWithin(0, 2, (x, v) -> x.ofStore(v, 5));
        t.readsEach((x, what) -> x.ofStore(0, what), 4900, 0, 0, 0, 0, 1300, 0, 1, NONE, NONE);
        t.readsEach((x, what) -> x.ofStore(1, what), 5000, 0, 0, 0, 0, 500, 1, NONE, NONE, NONE);
        t.readsEach((x, what) -> x.ofStore(2, what), 11, 12, 13, 14, 15, 1330, 2, 0, 1, NONE);
        Trial.full("26. ofStore, all places taken").answersWithin(0, 5, (x, v) -> x.ofStore(v, 5))
            .reads(0, x -> x.ofStore(5, 5))
            .reads(NONE, x -> x.ofStore(5, 6)).reads(26600, x -> x.ofStore(4, 5)).reads(1, x -> x.ofStore(4, 8))
            .reads(99799, x -> x.ofStore(5, 0));
    }

    private static void ofLoad() {
        Trial t = Trial.states("27. ofLoad").answersWithin(0, 4, (x, v) -> x.ofLoad(v, 0))
            .answersWithin(0, 13, (x, v) -> x.ofLoad(1, v));
        t.readsEach((x, what) -> x.ofLoad(0, what), 0, 1, 0, 0, 300, 5, 5, NONE, 0, 0, 0, 0, 0, 600, NONE, NONE);
        t.readsEach((x, what) -> x.ofLoad(1, what), 1, 0, 1, 0, 100, 90, 6, 0, 0, 200, 0, 0, 0, 200, NONE, NONE);
        t.readsEach((x, what) -> x.ofLoad(2, what), 2, 0, 1, 0, 10, 5, 7, 0, 10, 0, 0, 0, 0, 0, NONE, NONE);
        t.readsEach((x, what) -> x.ofLoad(3, what), 3, 0, 1, 0, 10, 1, 8, 0, 0, 0, 20, 10, 0, 0, NONE, NONE);
        t.readsEach((x, what) -> x.ofLoad(4, what), 4, 1, 0, 0, 400, 5, 9, NONE, 0, 0, 0, 0, 0, 0, NONE, NONE);
        t.with(x -> x.split(1, 40, 2)).answersWithin(0, 14, (x, v) -> x.ofLoad(5, v)).reads(1, x -> x.ofLoad(5, 14))
            .reads(NONE, x -> x.ofLoad(1, 14));
        Trial.full("27. ofLoad, all places taken").answersWithin(0, 39, (x, v) -> x.ofLoad(v, 4))
            .answersWithin(0, 39, (x, v) -> x.ofLoad(v, 0));
    }

    private static void ofLoadThatWaits() {
        Trial t = Trial.small("27. ofLoad: a LOAD of KIND 4, RANK 9")
            .with(x -> x.stock(1, 4, 9999), x -> x.rate(4, 0, 1), x -> x.load(1, 2, 4, 9999, 90, 9));
        t.readsEach((x, what) -> x.ofLoad(0, what), 0, 1, 2, 4, 9999, 90, 9, NONE, 0, 0, 0, 0, 0, 9999, NONE, NONE);
        t.with(x -> x.days(3), x -> x.limit(1, 9999)).reads(3, x -> x.ofLoad(0, 7)).reads(9999, x -> x.ofLoad(0, 9))
            .reads(1, x -> x.ofLoad(0, 0));
    }

    private static void sums() {
        Trial t = Trial.small("28. sums: HELD in all (what 0), RELEASED in all (1). NONE for others")
            .with(x -> x.load(0, 1, 0, 100, 5, 0), x -> x.load(1, 0, 0, 300, 5, 0));
        t.answersWithin(0, 1, (x, v) -> x.sums(v, 0)).answersWithin(0, 1, (x, v) -> x.sums(0, v))
            .reads(0, x -> x.sums(1, 0)).reads(0, x -> x.sums(1, 1));
        t.with(x -> x.rate(0, 5, 4)).reads(400, x -> x.sums(0, 0)).with(x -> x.rate(0, 5, 2))
            .reads(400, x -> x.sums(0, 0)).reads(200, x -> x.sums(0, 1));
        t.with(x -> x.rate(0, 5, 3)).reads(500, x -> x.sums(0, 0)).with(x -> x.arrive(0, 90, true, 0))
            .reads(500, x -> x.sums(0, 0)).reads(480, x -> x.sums(0, 1));
        Trial.full("28. sums, all places taken").answersWithin(0, 39, (x, v) -> x.sums(v, 1))
            .reads(20, x -> x.sums(38, 0)).reads(0, x -> x.sums(39, 0));
    }

    private static void held() {
        Trial t = Trial.small("29. held: HELD of a GUARANTOR for a LOAD. NONE")
            .with(x -> x.load(0, 1, 0, 600, 5, 0), x -> x.load(0, 1, 0, 600, 5, 0));
        t.answersWithin(0, 1, (x, v) -> x.held(v, 0)).answersWithin(0, 1, (x, v) -> x.held(0, v))
            .reads(1000, x -> x.held(0, 0)).reads(200, x -> x.held(0, 1));
        t.reads(0, x -> x.held(1, 0)).reads(0, x -> x.held(1, 1)).reads(NONE, x -> x.held(2, 2))
            .reads(NONE, x -> x.held(0, NONE));
        t.with(x -> x.arrive(0, 600, false, 0)).reads(0, x -> x.held(0, 0)).reads(1000, x -> x.held(1, 0));
        Trial.full("29. held, all places taken").answersWithin(0, 39, (x, v) -> x.held(v, 3))
            .answersWithin(0, 3, (x, v) -> x.held(39, v)).reads(20, x -> x.held(38, 0));
    }

    private static void rateOn() {
        Trial t = new Trial("30. rateOn: on a DAY (0 .. 9,999). NONE")
            .with(x -> x.rate(0, 0, 3), x -> x.rate(4, 9999, 7));
        t.answersWithin(0, 4, (x, v) -> x.rateOn(v, 0)).answersWithin(0, 9999, (x, v) -> x.rateOn(4, v))
            .reads(NONE, x -> x.rateOn(5, 10000));
        t.reads(0, x -> x.rateOn(4, 9998)).reads(7, x -> x.rateOn(4, 9999)).reads(3, x -> x.rateOn(0, 9999))
            .reads(3, x -> x.rateOn(0, 0));
        t.with(x -> x.days(5)).reads(3, x -> x.rateOn(0, 4));
    }

    private static void allowance() {
        Trial t = new Trial("31. allowance. NONE (KIND, q 0 .. 9,999, t 0 .. 999)")
            .with(x -> x.allows(4, 0, 99), x -> x.allows(4, 1, 999));
        t.answersWithin(0, 4, (x, v) -> x.allowance(v, 1, 1)).answersWithin(0, 9999, (x, v) -> x.allowance(4, v, 9))
            .answersWithin(0, 999, (x, v) -> x.allowance(4, 9, v));
        t.reads(998, x -> x.allowance(4, 9999, 999)).reads(0, x -> x.allowance(3, 9999, 999))
            .reads(0, x -> x.allowance(4, 0, 999)).reads(0, x -> x.allowance(4, 9999, 0));
    }

    private static void listed() {
        Trial t = Trial.small("32. listed: those that WAIT, by RANKS, numbers (0), that GO, by LATEST, numbers (1)");
        t.with(x -> x.load(1, 0, 0, 251, 5, 3), x -> x.load(1, 0, 0, 9, 5, 9), x -> x.load(1, 0, 0, 9, 5, 3),
            x -> x.load(1, 0, 0, 251, 9, 0));
        row(t, 0, 3, 0, 2, 1);
        row(t, 1);
        t.with(x -> x.terms(1, 0));
        row(t, 0, 3, 0);
        row(t, 1, 1, 2);
        t.with(x -> x.load(0, 1, 0, 9, 5, 0), x -> x.load(0, 1, 0, 9, 4, 0), x -> x.load(0, 1, 0, 9, 90, 0),
            x -> x.days(1), x -> x.load(0, 1, 0, 9, 4, 0));
        row(t, 1, 5, 1, 2, 4, 7, 6);
        t.with(x -> x.extend(5, 1), x -> x.match(1, 0, 1));
        row(t, 1, 1, 2, 4, 5, 7, 6);
        t.with(x -> x.arrive(4, 8, false, 0), x -> x.withdraw(3));
        row(t, 1, 1, 2, 5, 7, 6);
        row(t, 0, 0);
        for (int what : new int[] {-1, 3, Integer.MIN_VALUE, Integer.MAX_VALUE}) {
            row(t, what);
        }
    }

    /** All places of one list, none ahead of the first or behind the last. */
    private static void row(Trial t, int what, int... want) {
        t.readsEach((x, i) -> x.listed(what, i), want);
        for (int i : new int[] {-1, want.length, Integer.MIN_VALUE, Integer.MAX_VALUE}) {
            t.reads(NONE, x -> x.listed(what, i));
        }
    }

    private static void listedLate() {
        Trial t = Trial.small("32. listed: those that GO and are late (LATEST below DAY), by numbers (2)");
        t.with(x -> x.load(0, 1, 0, 9, 5, 0), x -> x.load(0, 1, 0, 9, 4, 0), x -> x.load(0, 1, 0, 9, 3, 0),
            x -> x.load(1, 0, 0, 300, 1, 0), x -> x.days(3));
        row(t, 2);
        t.with(x -> x.days(1));
        row(t, 2, 2);
        t.with(x -> x.days(1));
        row(t, 2, 1, 2);
        t.with(x -> x.days(1));
        row(t, 2, 0, 1, 2);
        t.with(x -> x.arrive(1, 9, false, 0), x -> x.extend(0, 1));
        row(t, 2, 2);
        t.with(x -> x.days(27)).reads(33, x -> x.count(0));
        row(t, 2, 0, 2);
        t.with(x -> x.days(1));
        row(t, 2, 0);
    }

    private static void listedFull() {
        Trial t = Trial.full("32. listed, all places taken");
        int[] even = new int[20];
        int[] odd = new int[20];
        for (int i = 0; i < 20; i++) {
            even[i] = 2 * i;
            odd[i] = 2 * i + 1;
        }
        row(t, 0, odd);
        row(t, 1, even);
        row(t, 2);
        t.with(x -> x.days(90), x -> x.days(1));
        row(t, 2, even);
    }

    /** All 40 LOADS in one list. */
    private static void listedForty() {
        Trial t = Trial.small("32. listed: 40 that WAIT, that GO, that are late");
        t.with(x -> x.stock(1, 0, 9000)).withEach(0, 39, (x, i) -> x.load(1, 0, 0, 251, 30 - i / 2, 5));
        int[] numbers = new int[40];
        int[] byLatest = new int[40];
        for (int i = 0; i < 40; i++) {
            numbers[i] = i;
            byLatest[i] = 38 - i / 2 * 2 + i % 2;
        }
        row(t, 0, numbers);
        row(t, 1);
        t.with(x -> x.limit(1, 40 * 502)).reads(40, x -> x.count(5));
        row(t, 0);
        row(t, 1, byLatest);
        t.with(x -> x.days(30));
        row(t, 2, Arrays.copyOfRange(numbers, 2, 40));
        t.with(x -> x.days(1));
        row(t, 2, numbers);
    }

    private static void room() {
        Trial t = Trial.small(
            "33. room: the greatest QUANTITY (0 .. 9,999) that could be HELD for now, DAYS 1 .. 90. NONE")
            .with(x -> x.rate(0, 5, 3));
        t.answersWithin(0, 2, (x, v) -> x.room(v, 0, 1)).answersWithin(0, 4, (x, v) -> x.room(0, v, 1))
            .answersWithin(1, 90, (x, v) -> x.room(0, 0, v));
        t.reads(750, x -> x.room(0, 0, 1)).reads(750, x -> x.room(0, 0, 4)).reads(500, x -> x.room(0, 0, 5))
            .reads(500, x -> x.room(0, 0, 90));
        t.with(x -> x.limit(1, 501)).reads(750, x -> x.room(0, 0, 4)).with(x -> x.limit(1, 502))
            .reads(751, x -> x.room(0, 0, 4));
        t.reads(500, x -> x.room(0, 0, 5)).with(x -> x.limit(1, 503)).reads(501, x -> x.room(0, 0, 5))
            .reads(167, x -> x.room(1, 0, 5));
        t.reads(0, x -> x.room(2, 0, 1)).reads(9999, x -> x.room(2, 1, 1)).reads(9999, x -> x.room(0, 1, 90));
        t.with(x -> x.limit(0, 19494)).reads(9998, x -> x.room(0, 0, 4)).with(x -> x.limit(0, 19495))
            .reads(9999, x -> x.room(0, 0, 4));
        t.with(x -> x.limit(0, 9999999)).reads(9999, x -> x.room(0, 0, 90)).with(x -> x.use(1, 0, 251))
            .reads(0, x -> x.room(1, 0, 4));
        t.with(x -> x.rate(1, 3, 1)).reads(9999, x -> x.room(1, 1, 2)).reads(1, x -> x.room(1, 1, 3));
        Trial f = Trial.full("33. room, all places taken").answersWithin(0, 5, (x, v) -> x.room(v, 0, 1))
            .reads(4500, x -> x.room(1, 0, 10)).reads(9000, x -> x.room(1, 0, 9));
        f.reads(0, x -> x.room(5, 0, 1)).reads(9999, x -> x.room(0, 0, 90));
    }

    private static void roomAsides() {
        Trial t = Trial.small("33. room: its STOCK and LOADS that WAIT aside")
            .with(x -> x.load(1, 0, 0, 251, 5, 0), x -> x.load(1, 0, 0, 4749, 5, 0));
        t.reads(0, x -> x.ofStore(1, 0)).reads(250, x -> x.room(1, 0, 9)).reads(750, x -> x.room(0, 0, 9))
            .with(x -> x.load(0, 1, 0, 9, 5, 0));
        t.reads(0, x -> x.ofLoad(2, 0)).reads(750, x -> x.room(0, 0, 9)).with(x -> x.rate(0, 4, 1), x -> x.days(3))
            .reads(750, x -> x.room(0, 0, 9));
        t.with(x -> x.days(1)).reads(1, x -> x.ofLoad(0, 0)).reads(249, x -> x.room(1, 0, 9))
            .reads(1249, x -> x.room(0, 0, 9));
    }

    private static void cheapest() {
        Trial t = new Trial(
            "34. cheapest: from which the greatest RATE of it and so many DAYS behind is least (1 .. "
            + "180). NONE for others");
        t.with(x -> x.rate(0, 0, 9), x -> x.rate(0, 10, 5), x -> x.rate(0, 13, 7), x -> x.rate(0, 20, 5),
            x -> x.rate(0, 23, 8));
        t.answersWithin(0, 4, (x, v) -> x.cheapest(v, 1, 0)).answersWithin(1, 180, (x, v) -> x.cheapest(0, v, 0))
            .answersWithin(0, 1, (x, v) -> x.cheapest(0, 1, v));
        t.reads(10, x -> x.cheapest(0, 1, 0)).reads(5, x -> x.cheapest(0, 1, 1)).reads(10, x -> x.cheapest(0, 2, 0))
            .reads(5, x -> x.cheapest(0, 2, 1));
        t.reads(10, x -> x.cheapest(0, 3, 0)).reads(7, x -> x.cheapest(0, 3, 1)).reads(10, x -> x.cheapest(0, 12, 0))
            .reads(7, x -> x.cheapest(0, 12, 1));
        t.reads(10, x -> x.cheapest(0, 13, 0)).reads(8, x -> x.cheapest(0, 13, 1)).reads(10, x -> x.cheapest(0, 180, 0))
            .reads(8, x -> x.cheapest(0, 180, 1));
        t.with(x -> x.days(10)).reads(10, x -> x.cheapest(0, 2, 0)).with(x -> x.days(1))
            .reads(20, x -> x.cheapest(0, 2, 0)).reads(11, x -> x.cheapest(0, 1, 0));
        t.reads(11, x -> x.cheapest(0, 9, 0)).reads(7, x -> x.cheapest(0, 9, 1)).reads(11, x -> x.cheapest(1, 9, 0))
            .reads(0, x -> x.cheapest(1, 9, 1));
        t.with(x -> x.days(20)).reads(31, x -> x.cheapest(0, 90, 0)).reads(8, x -> x.cheapest(0, 90, 1));
    }

    private static void cheapestOf400() {
        Trial t = new Trial("34. cheapest: the first DAY of 400 (now the first)")
            .with(x -> x.rate(0, 0, 9), x -> x.rate(0, 400, 1));
        t.reads(0, x -> x.cheapest(0, 1, 0)).reads(9, x -> x.cheapest(0, 1, 1)).with(x -> x.rate(0, 399, 2));
        t.reads(399, x -> x.cheapest(0, 1, 0)).reads(2, x -> x.cheapest(0, 1, 1)).with(x -> x.days(1))
            .reads(400, x -> x.cheapest(0, 1, 0));
        t.reads(1, x -> x.cheapest(0, 180, 1)).with(x -> x.rate(0, 580, 7)).reads(400, x -> x.cheapest(0, 179, 0))
            .reads(1, x -> x.cheapest(0, 179, 1));
        t.reads(2, x -> x.cheapest(0, 180, 1)).reads(399, x -> x.cheapest(0, 180, 0)).with(x -> x.rate(0, 399, 8))
            .reads(400, x -> x.cheapest(0, 180, 0));
    }

    private static void cheapestOnLastDays() {
        Trial t = new Trial("34. cheapest, with DAYS behind 9,999").with(x -> x.rate(0, 0, 5), x -> x.rate(0, 9999, 3))
            .withEach(1, 111, (x, i) -> x.days(90));
        t.reads(9999, x -> x.cheapest(0, 180, 0)).reads(3, x -> x.cheapest(0, 180, 1))
            .reads(9990, x -> x.cheapest(1, 1, 0)).with(x -> x.days(9));
        t.reads(9999, x -> x.cheapest(0, 1, 0)).reads(3, x -> x.cheapest(0, 1, 1));
    }

    private static void behind() {
        Trial t = Trial.small(
            "35. behind: how many (what 0), most HELD, the first (1; NONE), the latest LATEST (2; "
            + "NONE), less, if all late ENDED (3)");
        t.answersWithin(0, 1, (x, v) -> x.behind(v, 0)).reads(NONE, x -> x.behind(0, 4))
            .reads(NONE, x -> x.behind(0, -1));
        t.reads(0, x -> x.behind(0, 0)).reads(NONE, x -> x.behind(0, 1)).reads(NONE, x -> x.behind(0, 2))
            .reads(0, x -> x.behind(0, 3));
        t.with(x -> x.load(0, 1, 0, 1, 90, 0)).answersWithin(0, 3, (x, v) -> x.behind(0, v))
            .answersWithin(0, 1, (x, v) -> x.behind(v, 3));
        t.reads(1, x -> x.behind(0, 0)).reads(0, x -> x.behind(0, 1)).reads(90, x -> x.behind(0, 2))
            .reads(0, x -> x.behind(1, 0)).reads(NONE, x -> x.behind(1, 2));
        t.with(x -> x.load(0, 1, 0, 100, 5, 0), x -> x.load(0, 1, 0, 100, 6, 0)).reads(1, x -> x.behind(0, 1))
            .with(x -> x.load(0, 1, 0, 101, 7, 0));
        t.reads(3, x -> x.behind(0, 1)).reads(4, x -> x.behind(0, 0)).with(x -> x.arrive(3, 1, false, 0))
            .reads(1, x -> x.behind(0, 1));
        t.with(x -> x.arrive(3, 1, false, 0), x -> x.arrive(1, 1, false, 0)).reads(2, x -> x.behind(0, 1))
            .with(x -> x.arrive(0, 1, false, 0)).reads(7, x -> x.behind(0, 2));
        t.with(x -> x.shift(3, 0, 1)).reads(2, x -> x.behind(0, 0)).reads(6, x -> x.behind(0, 2))
            .reads(1, x -> x.behind(1, 0)).reads(3, x -> x.behind(1, 1));
        t.with(x -> x.load(1, 0, 0, 900, 9, 0), x -> x.stock(0, 1, 5), x -> x.terms(1, 0),
            x -> x.load(0, 1, 1, 5, 50, 0)).reads(1, x -> x.ofLoad(5, 0));
        t.reads(2, x -> x.behind(0, 0)).reads(1, x -> x.behind(1, 0)).reads(7, x -> x.behind(1, 2));
        Trial.full("35. behind, all places taken").answersWithin(0, 3, (x, v) -> x.behind(v, 3))
            .reads(20, x -> x.behind(0, 0)).reads(0, x -> x.behind(0, 1))
            .reads(90, x -> x.behind(0, 2)).reads(0, x -> x.behind(3, 0)).with(x -> x.days(90))
            .reads(0, x -> x.behind(0, 3)).with(x -> x.days(1)).reads(400, x -> x.behind(0, 3));
    }

    private static void behindLate() {
        Trial t = Trial.small(
            "35. behind: how much it would hold less, if all that are late were ENDED with nothing short (3)");
        t.with(x -> x.load(0, 1, 0, 400, 5, 0), x -> x.load(0, 1, 0, 200, 6, 0), x -> x.days(5))
            .reads(0, x -> x.behind(0, 3)).with(x -> x.days(1));
        t.reads(800, x -> x.behind(0, 3)).reads(0, x -> x.behind(1, 3)).with(x -> x.days(1))
            .reads(1000, x -> x.behind(0, 3)).reads(200, x -> x.behind(1, 3));
        t.with(x -> x.arrive(0, 1, false, 0)).reads(998, x -> x.behind(0, 3)).with(x -> x.extend(0, 2))
            .reads(200, x -> x.behind(0, 3));
        t.with(x -> x.arrive(1, 200, true, 0)).reads(0, x -> x.behind(0, 3)).reads(0, x -> x.behind(1, 3))
            .reads(1, x -> x.behind(0, 0));
    }

    private static void freed() {
        Trial t = Trial.small("36. freed: LIMIT so much (1 .. 9,999,999) more. NONE")
            .with(x -> x.load(1, 0, 0, 251, 5, 0), x -> x.load(1, 0, 0, 2, 5, 0), x -> x.load(0, 1, 0, 500, 5, 0));
        t.answersWithin(0, 1, (x, v) -> x.freed(v, 1)).answersWithin(1, 9999999, (x, v) -> x.freed(1, v))
            .reads(NONE, x -> x.freed(2, 0));
        t.reads(0, x -> x.freed(1, 1)).reads(1, x -> x.freed(1, 2)).reads(1, x -> x.freed(1, 5))
            .reads(3, x -> x.freed(1, 6)).reads(0, x -> x.freed(0, 9999999));
        t.with(x -> x.terms(1, 0)).reads(2, x -> x.count(5)).reads(0, x -> x.freed(1, 5)).reads(1, x -> x.freed(1, 6))
            .reads(0, x -> x.freed(0, 9999999));
        t.with(x -> x.limit(1, 506)).reads(3, x -> x.count(5)).reads(0, x -> x.freed(1, 9999999))
            .reads(506, x -> x.ofGuarantor(1, 0));
        Trial f = Trial.full("36. freed, all places taken").answersWithin(0, 3, (x, v) -> x.freed(v, 9999999))
            .reads(0, x -> x.freed(0, 9999999));
        f.with(x -> x.limit(3, 0), x -> x.order(5, 3, NONE, NONE)).reads(0, x -> x.freed(3, 19))
            .reads(1, x -> x.freed(3, 20)).reads(19, x -> x.freed(3, 399)).reads(20, x -> x.freed(3, 400));
    }

    private static void freedMost() {
        Trial t = new Trial("36. freed: also above 9,999,999")
            .with(x -> x.guarantor(9999999), x -> x.store(0, NONE, NONE), x -> x.store(NONE, NONE, NONE));
        t.with(x -> x.rate(0, 0, 999), x -> x.stock(0, 0, 99999)).withEach(0, 2, (x, i) -> x.load(0, 1, 0, 9999, 90, 0))
            .reads(1, x -> x.count(5));
        t.reads(0, x -> x.freed(0, 9989001 - 10999)).reads(1, x -> x.freed(0, 9989001 - 10998))
            .reads(1, x -> x.freed(0, 9999999)).reads(9999999, x -> x.ofGuarantor(0, 0));
    }

    private static void lacks() {
        Trial t = Trial.small(
            "37. lacks: the least LIMIT more by which the first LOAD that WAITS would GO. NONE (none "
            + "WAITS, by none; others)");
        t.reads(NONE, x -> x.lacks(0)).reads(NONE, x -> x.lacks(1)).with(x -> x.load(1, 0, 0, 250, 5, 9))
            .reads(NONE, x -> x.lacks(1));
        t.with(x -> x.load(1, 0, 0, 1, 5, 9)).answersWithin(1, 1, (x, v) -> x.lacks(v)).reads(2, x -> x.lacks(1))
            .reads(NONE, x -> x.lacks(0));
        t.reads(NONE, x -> x.lacks(2)).reads(NONE, x -> x.lacks(NONE)).with(x -> x.load(1, 0, 0, 9, 5, 9))
            .reads(2, x -> x.lacks(1));
        t.with(x -> x.load(1, 0, 0, 9, 5, 8)).reads(18, x -> x.lacks(1)).with(x -> x.load(0, 1, 0, 600, 5, 7))
            .reads(200, x -> x.lacks(0)).reads(200, x -> x.lacks(1));
        t.fork().with(x -> x.limit(0, 1199)).reads(1, x -> x.lacks(0)).reads(1, x -> x.lacks(1))
            .with(x -> x.limit(0, 1200)).reads(NONE, x -> x.lacks(0)).reads(18, x -> x.lacks(1));
        t.fork().with(x -> x.limit(1, 700)).reads(18, x -> x.lacks(1)).reads(NONE, x -> x.lacks(0));
        t.with(x -> x.guarantor(9), x -> x.stock(2, 0, 9), x -> x.load(2, 1, 0, 5, 5, 0)).reads(NONE, x -> x.lacks(0))
            .reads(NONE, x -> x.lacks(1)).reads(NONE, x -> x.lacks(2));
    }

    private static void lacksMost() {
        Trial t = new Trial("37. lacks: 0 .. 9,999,999").with(x -> x.guarantor(0), x -> x.store(0, NONE, NONE),
            x -> x.store(NONE, NONE, NONE), x -> x.rate(0, 0, 999));
        t.with(x -> x.stock(0, 0, 9999), x -> x.load(0, 1, 0, 9999, 90, 0)).reads(9989001, x -> x.lacks(0))
            .with(x -> x.limit(0, 9989000)).reads(1, x -> x.lacks(0));
        t.act(9989000, x -> x.limit(0, 9989001)).reads(NONE, x -> x.lacks(0)).reads(1, x -> x.ofLoad(0, 0));
        Trial f = Trial.full("37. lacks, all places taken").reads(NONE, x -> x.lacks(0)).reads(NONE, x -> x.lacks(3))
            .reads(NONE, x -> x.lacks(4));
        f.with(x -> x.limit(3, 0), x -> x.order(5, 3, NONE, NONE)).reads(20, x -> x.lacks(3)).with(x -> x.limit(3, 19))
            .reads(1, x -> x.lacks(3));
    }

    private static void best() {
        Trial t = Trial.small(
            "38. best: the NEEDS of which are together FREE of it at most and most, the least as bits "
            + "(what 0), these NEEDS (1). NONE");
        t.answersWithin(0, 1, (x, v) -> x.best(v, 0)).answersWithin(0, 1, (x, v) -> x.best(1, v))
            .reads(0, x -> x.best(1, 0)).reads(0, x -> x.best(1, 1));
        t.with(x -> x.load(1, 0, 0, 251, 5, 0)).reads(0, x -> x.best(1, 0)).reads(0, x -> x.best(1, 1))
            .with(x -> x.load(1, 0, 0, 250, 5, 1));
        t.reads(2, x -> x.best(1, 0)).reads(500, x -> x.best(1, 1))
            .with(x -> x.load(1, 0, 0, 100, 5, 1), x -> x.load(1, 0, 0, 150, 5, 1));
        t.reads(2, x -> x.best(1, 0)).with(x -> x.withdraw(1)).reads(6, x -> x.best(1, 0)).reads(500, x -> x.best(1, 1))
            .with(x -> x.limit(1, 499));
        t.reads(4, x -> x.best(1, 0)).reads(300, x -> x.best(1, 1)).with(x -> x.limit(1, 299))
            .reads(2, x -> x.best(1, 0)).reads(200, x -> x.best(1, 1));
        t.with(x -> x.limit(1, 200)).reads(2, x -> x.best(1, 0)).with(x -> x.limit(1, 199)).reads(0, x -> x.best(1, 0))
            .reads(0, x -> x.best(1, 1));
        Trial f = Trial.full("38. best, all places taken").answersWithin(0, 3, (x, v) -> x.best(v, 1))
            .reads(0, x -> x.best(0, 0)).with(x -> x.limit(3, 0), x -> x.order(5, 3, NONE, NONE));
        f.reads(0, x -> x.best(3, 0)).with(x -> x.terms(1, 1), x -> x.limit(3, 19)).reads(0, x -> x.best(3, 0))
            .reads(20, x -> x.count(4));
    }

    private static void bestOfTen() {
        Trial t = Trial.small("38. best: the first 10 by RANKS, numbers")
            .with(x -> x.limit(1, 0), x -> x.load(1, 0, 0, 500, 5, 0));
        t.withEach(1, 8, (x, i) -> x.load(1, 0, 0, 100 + i, 5, 5))
            .with(x -> x.load(1, 0, 0, 3, 5, 9), x -> x.load(1, 0, 0, 2, 5, 9), x -> x.load(1, 0, 0, 1, 5, 8));
        t.with(x -> x.limit(1, 9)).reads(0b1000000000, x -> x.best(1, 0)).reads(2, x -> x.best(1, 1))
            .with(x -> x.withdraw(1)).reads(0b1100000000, x -> x.best(1, 0));
        t.reads(8, x -> x.best(1, 1)).with(x -> x.withdraw(2)).reads(0b0110000000, x -> x.best(1, 0))
            .reads(8, x -> x.best(1, 1));
    }

    private static void bestOfSomeWaiting() {
        Trial t = Trial.small("38. best: with a FROM of which a GUARANTOR alone is the order")
            .with(x -> x.guarantor(300), x -> x.store(2, NONE, NONE), x -> x.stock(3, 0, 900));
        t.with(x -> x.load(1, 0, 0, 300, 5, 0), x -> x.load(3, 0, 0, 100, 5, 1), x -> x.load(0, 1, 0, 100, 5, 1),
            x -> x.load(1, 0, 0, 200, 5, 2), x -> x.load(3, 0, 0, 50, 5, 3));
        t.reads(2, x -> x.best(1, 0)).reads(400, x -> x.best(1, 1)).reads(3, x -> x.best(2, 0))
            .reads(300, x -> x.best(2, 1)).reads(0, x -> x.best(0, 0));
        t.with(x -> x.order(3, 0, 2, NONE)).reads(0, x -> x.best(2, 0)).with(x -> x.order(3, NONE, NONE, 0))
            .reads(3, x -> x.best(0, 0)).reads(300, x -> x.best(0, 1));
        t.with(x -> x.order(1, NONE, NONE, NONE)).reads(0, x -> x.best(1, 0));
        Trial gone = Trial.small("38. best: of the LOADS that WAIT, none of those that GO")
            .with(x -> x.load(1, 0, 0, 10, 5, 0), x -> x.load(1, 0, 0, 300, 5, 0));
        gone.reads(480, x -> x.ofGuarantor(1, 3)).reads(0, x -> x.best(1, 0)).reads(0, x -> x.best(1, 1));
        gone.with(x -> x.load(1, 0, 0, 100, 5, 1)).reads(2, x -> x.best(1, 0)).reads(200, x -> x.best(1, 1));
        Trial free = Trial.small("38. best: of LOADS with NEED 0 none is taken")
            .with(x -> x.stock(1, 1, 9), x -> x.load(1, 0, 0, 300, 5, 0), x -> x.load(1, 0, 1, 9, 5, 1));
        free.reads(0, x -> x.ofLoad(1, 0)).reads(0, x -> x.best(1, 0)).with(x -> x.load(1, 0, 0, 7, 5, 2))
            .reads(4, x -> x.best(1, 0)).reads(14, x -> x.best(1, 1));
    }

    private static void explains() {
        Trial t = Trial.small(
            "39. explains: the fewest, of like many the least as bits (what 0), how many (1); 1 .. "
            + "99,999. NONE (by none; others)");
        t.reads(NONE, x -> x.explains(1, 0, 1, 0)).reads(NONE, x -> x.explains(1, 0, 1, 1))
            .with(x -> x.load(0, 1, 0, 1, 5, 0), x -> x.load(0, 1, 0, 2, 5, 0), x -> x.load(0, 1, 0, 3, 5, 0));
        t.reads(1, x -> x.explains(1, 0, 1, 0)).reads(2, x -> x.explains(1, 0, 2, 0))
            .reads(4, x -> x.explains(1, 0, 3, 0)).reads(1, x -> x.explains(1, 0, 3, 1));
        t.reads(5, x -> x.explains(1, 0, 4, 0)).reads(6, x -> x.explains(1, 0, 5, 0))
            .reads(7, x -> x.explains(1, 0, 6, 0)).reads(3, x -> x.explains(1, 0, 6, 1))
            .reads(NONE, x -> x.explains(1, 0, 7, 0));
        for (int v : new int[] {-1, 3, Integer.MIN_VALUE, Integer.MAX_VALUE}) {
            t.reads(NONE, x -> x.explains(v, 0, 1, 0)).reads(NONE, x -> x.explains(1, v == 3 ? 5 : v, 1, 0))
                .reads(NONE, x -> x.explains(1, 0, 1, v == 3 ? 2 : v));
            t.reads(NONE, x -> x.explains(1, 0, v == 3 ? 100000 : v, 0)).reads(NONE, x -> x.explains(1, 0, 0, 1));
        }
        t.with(x -> x.load(0, 1, 0, 3, 4, 0)).reads(1, x -> x.explains(1, 0, 3, 0))
            .reads(2, x -> x.explains(1, 0, 1, 0)).reads(9, x -> x.explains(1, 0, 6, 0))
            .reads(2, x -> x.explains(1, 0, 6, 1));
        t.reads(3, x -> x.explains(1, 0, 4, 0)).with(x -> x.arrive(3, 2, false, 0))
            .reads(1, x -> x.explains(1, 0, 1, 0)).reads(8, x -> x.explains(1, 0, 3, 0))
            .reads(9, x -> x.explains(1, 0, 4, 0));
        t.with(x -> x.divert(2, 2)).reads(5, x -> x.explains(1, 0, 3, 0)).reads(1, x -> x.explains(2, 0, 3, 0))
            .reads(NONE, x -> x.explains(2, 1, 3, 0)).reads(NONE, x -> x.explains(0, 0, 1, 0));
        Trial s = Trial.states("39. explains: LOADS that GO alone").reads(NONE, x -> x.explains(0, 0, 300, 0))
            .reads(NONE, x -> x.explains(1, 0, 10, 0)).reads(1, x -> x.explains(1, 0, 100, 0));
        s.reads(NONE, x -> x.explains(0, 0, 400, 0));
    }

    private static void explainsOfTwelve() {
        Trial t = Trial.small("39. explains: of the first 12 by LATEST, numbers")
            .withEach(0, 10, (x, i) -> x.load(0, 1, 0, 20, 5, 0));
        t.with(x -> x.load(0, 1, 0, 7, 6, 0), x -> x.load(0, 1, 0, 3, 6, 0))
            .reads(0b100000000000, x -> x.explains(1, 0, 7, 0)).reads(NONE, x -> x.explains(1, 0, 3, 0));
        t.reads(12, x -> x.explains(1, 0, 227, 1)).reads(0b111111111111, x -> x.explains(1, 0, 227, 0))
            .reads(NONE, x -> x.explains(1, 0, 230, 0));
        t.with(x -> x.load(0, 1, 0, 3, 4, 0)).reads(1, x -> x.explains(1, 0, 3, 0))
            .reads(NONE, x -> x.explains(1, 0, 7, 0));
        t.with(x -> x.arrive(13, 3, false, 0), x -> x.extend(0, 9)).reads(0b100000000000, x -> x.explains(1, 0, 3, 0))
            .reads(0b010000000000, x -> x.explains(1, 0, 7, 0));
        Trial f = Trial.full("39. explains, all places taken").reads(0b1, x -> x.explains(1, 0, 10, 0))
            .reads(12, x -> x.explains(1, 0, 120, 1)).reads(NONE, x -> x.explains(1, 0, 130, 0));
        f.reads(NONE, x -> x.explains(0, 0, 10, 0)).reads(NONE, x -> x.explains(6, 0, 10, 0));
    }

    private static void explainsMost() {
        Trial t = new Trial("39. explains: 99,999 at most")
            .with(x -> x.store(NONE, NONE, NONE), x -> x.store(NONE, NONE, NONE), x -> x.stock(0, 4, 99999));
        t.withEach(0, 9, (x, i) -> x.load(0, 1, 4, 9999, 9, 0))
            .with(x -> x.load(0, 1, 4, 9, 9, 0), x -> x.stock(0, 4, 1), x -> x.load(0, 1, 4, 1, 9, 0));
        t.reads(11, x -> x.explains(1, 4, 99999, 1)).reads(0b011111111111, x -> x.explains(1, 4, 99999, 0))
            .reads(NONE, x -> x.explains(1, 4, 100000, 1));
        t.reads(0b100000000000, x -> x.explains(1, 4, 1, 0)).reads(2, x -> x.explains(1, 4, 10, 1));
    }

    private static void would() {
        Trial t = Trial.states(
            "40. would: behind n (1 .. 90) DAYS: DUE of all (what 0), LOST in them (1), that WAIT (2), "
            + "HELD of all (3). NONE for others");
        t.answersWithin(1, 90, (x, v) -> x.would(v, 0)).answersWithin(0, 3, (x, v) -> x.would(1, v))
            .reads(NONE, x -> x.would(0, 4)).reads(NONE, x -> x.would(91, -1));
        t.reads(20, x -> x.would(88, 0)).reads(0, x -> x.would(88, 1)).reads(1, x -> x.would(88, 2))
            .reads(200, x -> x.would(88, 3));
        t.reads(220, x -> x.would(89, 0)).reads(1, x -> x.would(89, 1)).reads(1, x -> x.would(89, 2))
            .reads(0, x -> x.would(89, 3)).reads(1, x -> x.would(90, 1));
        t.with(x -> x.rate(0, 10, 1)).reads(1, x -> x.would(7, 2)).reads(0, x -> x.would(8, 2))
            .reads(200 + 300, x -> x.would(8, 3)).reads(2, x -> x.count(0));
        t.reads(0, x -> x.would(13, 1)).reads(1, x -> x.would(14, 1)).reads(320, x -> x.would(14, 0))
            .reads(200, x -> x.would(14, 3)).reads(1, x -> x.count(4));
        Trial.full("40. would, all places taken").reads(0, x -> x.would(90, 1)).with(x -> x.days(60))
            .reads(0, x -> x.would(60, 1)).reads(20, x -> x.would(61, 1))
            .reads(20, x -> x.would(61, 2)).reads(400, x -> x.would(61, 0)).reads(400, x -> x.would(60, 3))
            .reads(0, x -> x.would(61, 3));
    }

    private static void wouldOnLastDays() {
        Trial t = new Trial("40. would: NONE (DAY above 9,999, too)").withEach(1, 111, (x, i) -> x.days(90))
            .reads(0, x -> x.would(9, 0)).reads(NONE, x -> x.would(10, 0));
        t.reads(NONE, x -> x.would(90, 3)).with(x -> x.days(8)).reads(0, x -> x.would(1, 3))
            .reads(NONE, x -> x.would(2, 0)).with(x -> x.days(1)).reads(NONE, x -> x.would(1, 0));
    }

    private static void dutyIf() {
        Trial t = Trial.small(
            "41. dutyIf: an ARRIVAL of so much (0 .. REST), the loss on a DAY (BEGUN to now, not "
            + "behind LATEST). NONE for others");
        t.with(x -> x.rate(0, 1, 3), x -> x.rate(0, 2, 4), x -> x.rate(0, 3, 1), x -> x.allows(0, 0, 50),
            x -> x.allows(0, 1, 999), x -> x.days(1));
        t.with(x -> x.load(0, 1, 0, 300, 5, 0), x -> x.load(1, 0, 0, 400, 5, 0))
            .answersWithin(0, 300, (x, v) -> x.dutyIf(0, v, 1)).answersWithin(1, 1, (x, v) -> x.dutyIf(0, 0, v));
        t.reads(900, x -> x.dutyIf(0, 0, 1)).reads(0, x -> x.dutyIf(0, 300, 1)).reads(3, x -> x.dutyIf(0, 299, 1))
            .with(x -> x.days(2));
        t.answersWithin(1, 3, (x, v) -> x.dutyIf(0, 0, v)).reads(891, x -> x.dutyIf(0, 0, 1))
            .reads(1188, x -> x.dutyIf(0, 0, 2)).reads(297, x -> x.dutyIf(0, 0, 3));
        t.reads(0, x -> x.dutyIf(0, 297, 2)).reads(4, x -> x.dutyIf(0, 296, 2)).reads(0, x -> x.dutyIf(0, 298, 2))
            .reads(NONE, x -> x.dutyIf(1, 0, 3)).reads(NONE, x -> x.dutyIf(2, 0, 3));
        t.with(x -> x.arrive(0, 100, false, 0)).answersWithin(0, 200, (x, v) -> x.dutyIf(0, v, 3))
            .reads(197, x -> x.dutyIf(0, 0, 3)).reads(0, x -> x.dutyIf(0, 200, 3));
        t.reads(NONE, x -> x.dutyIf(-1, 0, 3)).reads(NONE, x -> x.dutyIf(0, 201, 4)).with(x -> x.stock(1, 0, 95299))
            .reads(0, x -> x.dutyIf(0, 200, 3));
        Trial s = Trial.states("41. dutyIf: of a LOAD that GOES").reads(200, x -> x.dutyIf(1, 0, 0));
        for (int state : new int[] {0, 2, 3, 4}) {
            s.reads(NONE, x -> x.dutyIf(state, 0, 0)).reads(NONE, x -> x.dutyIf(state, 0, 1));
        }
        Trial f = Trial.full("41. dutyIf, all places taken").reads(10, x -> x.dutyIf(38, 0, 0))
            .reads(NONE, x -> x.dutyIf(39, 0, 0)).reads(NONE, x -> x.dutyIf(40, 0, 0));
        f.reads(NONE, x -> x.dutyIf(38, 11, 0)).reads(0, x -> x.dutyIf(38, 10, 0));
    }

    private static void dutyIfLate() {
        Trial t = Trial.small("41. dutyIf: not behind LATEST; t is to LATEST")
            .with(x -> x.allows(0, 0, 50), x -> x.allows(0, 1, 999), x -> x.load(0, 1, 0, 400, 3, 0), x -> x.days(3));
        t.answersWithin(0, 3, (x, v) -> x.dutyIf(0, 0, v)).reads(788, x -> x.dutyIf(0, 0, 3)).with(x -> x.days(1))
            .answersWithin(0, 3, (x, v) -> x.dutyIf(0, 0, v));
        t.reads(788, x -> x.dutyIf(0, 0, 3)).reads(NONE, x -> x.dutyIf(0, 0, 4)).act(400, x -> x.arrive(0, 0, true, 3))
            .reads(788, x -> x.ofLoad(0, 10)).reads(NONE, x -> x.dutyIf(0, 0, 3));
    }

    private static void dayOf() {
        Trial t = Trial.small(
            "42. dayOf: the DAY with the least RATE (what 0), the greatest (1), the first of like "
            + "ones. NONE for others");
        t.with(x -> x.rate(0, 1, 4), x -> x.rate(0, 2, 3), x -> x.rate(0, 3, 4), x -> x.rate(0, 4, 3),
            x -> x.rate(0, 5, 9), x -> x.rate(0, 6, 0));
        t.with(x -> x.days(1), x -> x.load(0, 1, 0, 10, 4, 0), x -> x.load(1, 0, 0, 900, 5, 0))
            .answersWithin(0, 1, (x, v) -> x.dayOf(0, v)).answersWithin(0, 0, (x, v) -> x.dayOf(v, 0));
        t.reads(1, x -> x.dayOf(0, 0)).reads(1, x -> x.dayOf(0, 1)).with(x -> x.days(1)).reads(2, x -> x.dayOf(0, 0))
            .reads(1, x -> x.dayOf(0, 1));
        t.reads(NONE, x -> x.dayOf(1, 0)).reads(NONE, x -> x.dayOf(1, 1)).reads(NONE, x -> x.dayOf(2, 0));
        t.with(x -> x.days(2)).reads(2, x -> x.dayOf(0, 0)).reads(1, x -> x.dayOf(0, 1)).with(x -> x.days(1))
            .reads(5, x -> x.dayOf(0, 1)).reads(2, x -> x.dayOf(0, 0));
        t.with(x -> x.days(9)).reads(2, x -> x.dayOf(0, 0)).reads(5, x -> x.dayOf(0, 1)).with(x -> x.extend(0, 1))
            .reads(6, x -> x.dayOf(0, 0));
        t.with(x -> x.arrive(0, 10, false, 0)).reads(NONE, x -> x.dayOf(0, 0));
        Trial s = Trial.states("42. dayOf: of a LOAD that GOES").reads(0, x -> x.dayOf(1, 0))
            .reads(0, x -> x.dayOf(1, 1));
        for (int state : new int[] {0, 2, 3, 4}) {
            s.reads(NONE, x -> x.dayOf(state, 0)).reads(NONE, x -> x.dayOf(state, 1));
        }
        Trial.full("42. dayOf, all places taken").with(x -> x.days(90)).reads(0, x -> x.dayOf(38, 0))
            .reads(10, x -> x.dayOf(38, 1)).reads(NONE, x -> x.dayOf(39, 0)).reads(NONE, x -> x.dayOf(40, 1));
    }

    private static void count() {
        Trial t = Trial.states("43. count").answersWithin(0, 18, (x, v) -> x.count(v)).refused(BAD, x -> x.days(0))
            .refused(MISSING, x -> x.withdraw(5)).refused(MISSING, x -> x.withdraw(6));
        t.refused(CANNOT, x -> x.withdraw(1)).refused(CANNOT, x -> x.withdraw(1)).refused(CANNOT, x -> x.withdraw(1))
            .with(x -> x.terms(0, 17), x -> x.load(0, 1, 0, 7, 5, 0));
        t.readsEach((x, what) -> x.count(what), 2, 2, 3, 6, 1, 2, 1, 1, 1, 214, 20, 9583, 8, 17, 0, 1, 2, 3, 0, NONE);
    }

    private static void countFull() {
        Trial t = Trial.full("43. count, all places taken").answersWithin(0, 18, (x, v) -> x.count(v))
            .refused(FULL, x -> x.guarantor(1)).refused(FULL, x -> x.store(0, 1, 2));
        t.refused(FULL, x -> x.rate(0, 111, 1)).refused(FULL, x -> x.load(0, 1, 0, 1, 1, 0))
            .refused(FULL, x -> x.split(0, 1, 2));
        t.readsEach((x, what) -> x.count(what),
            0, 4, 6, 40, 20, 20, 0, 0, 0, 400, 0, 199598, 8, 30, 0, 0, 0, 0, 5, NONE);
    }

    private static void status() {
        Trial t = new Trial("44. status: what the latest call was REFUSED by; 0 if it was not, or ahead of any")
            .reads(0, x -> x.status());
        t.refused(BAD, x -> x.guarantor(-1)).act(0, x -> x.guarantor(1)).refused(CANNOT, x -> x.back(0))
            .act(0, x -> x.image(0)).refused(BAD, x -> x.image(2));
        t.act(0, x -> x.back(0)).refused(CANNOT, x -> x.undo()).reads(CANNOT, x -> x.status())
            .reads(CANNOT, x -> x.status()).act(30, x -> x.terms(0, 1));
        t.refused(MISSING, x -> x.withdraw(0)).act(8, x -> x.undo()).refused(BAD, x -> x.back(2)).act(0, x -> x.days(1))
            .reads(0, x -> x.status());
    }
}
