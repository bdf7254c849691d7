/** Promises 1 to 23, call by call: at each bound, beside it, with nothing there, with all places taken. */
public final class ActsTest {
    private static final int NONE = Trial.NONE;
    private static final int BAD = Trial.BAD;
    private static final int MISSING = Trial.MISSING;
    private static final int CANNOT = Trial.CANNOT;
    private static final int FULL = Trial.FULL;

    private ActsTest() {
    }

    public static void main(String[] args) {
        actsOnANewObject();
        guarantor();
        limit();
        pay();
        payMost();
        store();
        order();
        stock();
        stockOfEach();
        allows();
        rateBounds();
        rateFromDays();
        rateOnLastDays();
        rateThatCannotBeHeld();
        twelveRates();
        terms();
        load();
        loadCannotBe();
        fortyLoads();
        withdraw();
        withdrawnThenTurns();
        arriveBounds();
        arriveCannotBe();
        arriveIntoFullStock();
        match();
        matchMost();
        matchThere();
        split();
        splitCannotBe();
        splitMost();
        use();
        useMost();
        shift();
        shiftCannotBe();
        extend();
        extendTo180();
        extendThatCannotBeHeld();
        extendOneThatIsLate();
        divert();
        days();
        undoEach();
        undoneOrder();
        placesBehindUndo();
        undoKeepsEight();
        undoLeavesRefusalsTold();
        image();
        imagesHoldAll();
        back();
        Trial.end("ActsTest");
    }

    private static void actsOnANewObject() {
        Trial t = new Trial("1. No STORES: with nothing there");
        t.refused(MISSING, x -> x.limit(0, 0)).refused(MISSING, x -> x.pay(0, 1))
            .refused(MISSING, x -> x.order(0, NONE, NONE, NONE));
        t.refused(BAD, x -> x.store(0, NONE, NONE)).refused(BAD, x -> x.order(0, 0, NONE, NONE))
            .refused(MISSING, x -> x.stock(0, 0, 1));
        t.refused(MISSING, x -> x.load(0, 1, 0, 1, 1, 0)).refused(MISSING, x -> x.withdraw(0))
            .refused(MISSING, x -> x.arrive(0, 1, false, 0));
        t.refused(MISSING, x -> x.match(0, 0, 1)).refused(MISSING, x -> x.split(0, 1, 0))
            .refused(MISSING, x -> x.use(0, 0, 1));
        t.refused(MISSING, x -> x.shift(0, 0, 1)).refused(MISSING, x -> x.extend(0, 1))
            .refused(MISSING, x -> x.divert(0, 1));
        t.refused(CANNOT, x -> x.undo()).refused(CANNOT, x -> x.back(0)).refused(CANNOT, x -> x.back(1));
        t.fork().act(0, x -> x.store(NONE, NONE, NONE)).fork().act(0, x -> x.allows(0, 0, 1))
            .act(0, x -> x.rate(0, 0, 1));
        t.fork().act(30, x -> x.terms(0, 0)).act(1, x -> x.terms(1, 0)).act(0, x -> x.days(1)).act(1, x -> x.image(0));
        t.act(0, x -> x.guarantor(0)).act(0, x -> x.undo()).refused(CANNOT, x -> x.undo());
    }

    private static void guarantor() {
        Trial t = new Trial("2. guarantor: its number. -1; -5").bounds(0, 9999999, (x, v) -> x.guarantor(v));
        t.act(0, x -> x.guarantor(0)).reads(0, x -> x.ofGuarantor(0, 0));
        t.act(1, x -> x.guarantor(9999999)).reads(9999999, x -> x.ofGuarantor(1, 0))
            .reads(9999999, x -> x.ofGuarantor(1, 3));
        t.act(2, x -> x.guarantor(1)).bounds(0, 9999999, (x, v) -> x.guarantor(v)).act(3, x -> x.guarantor(2));
        t.refused(FULL, x -> x.guarantor(0)).refused(FULL, x -> x.guarantor(9999999)).reads(4, x -> x.count(1));
        t.refused(BAD, x -> x.guarantor(-1)).refused(BAD, x -> x.guarantor(10000000));
        t.act(0, x -> x.undo()).act(3, x -> x.guarantor(7)).reads(7, x -> x.ofGuarantor(3, 0))
            .refused(FULL, x -> x.guarantor(7));
        Trial.full("2. guarantor, all places taken").refused(FULL, x -> x.guarantor(5));
    }

    private static void limit() {
        new Trial("3. limit: -2, with none there").missing(0, (x, v) -> x.limit(v, 5))
            .refused(BAD, x -> x.limit(0, -1));
        Trial t = Trial.small("3. limit: what it was. -1; -2; -4 (FREE would be below 0)");
        t.bounds(0, 9999999, (x, v) -> x.limit(0, v)).missing(2, (x, v) -> x.limit(v, 5));
        t.refused(BAD, x -> x.limit(2, -1)).refused(BAD, x -> x.limit(NONE, 10000000));
        t.fork().act(500, x -> x.limit(1, 0)).act(0, x -> x.limit(1, 9999999)).act(9999999, x -> x.limit(1, 500));
        t.fork().with(x -> x.load(0, 1, 0, 100, 5, 0)).refused(CANNOT, x -> x.limit(0, 199))
            .refused(CANNOT, x -> x.limit(0, 0))
            .refused(BAD, x -> x.limit(0, -1)).act(1000, x -> x.limit(0, 200)).reads(0, x -> x.ofGuarantor(0, 3))
            .act(200, x -> x.limit(0, 201)).reads(1, x -> x.ofGuarantor(0, 3));
        t.fork().with(x -> x.use(0, 0, 100)).refused(CANNOT, x -> x.limit(0, 199)).act(1000, x -> x.limit(0, 200));
        t.with(x -> x.use(0, 0, 100), x -> x.load(0, 1, 0, 100, 5, 0)).refused(CANNOT, x -> x.limit(0, 399));
        t.act(500, x -> x.limit(1, 0)).act(1000, x -> x.limit(0, 400)).reads(0, x -> x.ofStore(0, 5));
        Trial f = Trial.full("3. limit, all places taken").missing(4, (x, v) -> x.limit(v, 9000));
        f.refused(CANNOT, x -> x.limit(0, 399)).act(9000, x -> x.limit(0, 400)).act(9000, x -> x.limit(3, 0));
    }

    private static void pay() {
        new Trial("4. pay: -2, with none there").missing(0, (x, v) -> x.pay(v, 5)).refused(BAD, x -> x.pay(0, 0));
        Trial t = Trial.small("4. pay: how much is left. -1 (1 .. 9,999,999); -2; -4 (more than is DUE)");
        t.refused(CANNOT, x -> x.pay(0, 1)).refused(CANNOT, x -> x.pay(0, 9999999)).refused(BAD, x -> x.pay(0, 0));
        t.refused(BAD, x -> x.pay(0, 10000000)).refused(BAD, x -> x.pay(0, -1))
            .refused(BAD, x -> x.pay(0, Integer.MAX_VALUE));
        t.refused(BAD, x -> x.pay(0, Integer.MIN_VALUE)).refused(BAD, x -> x.pay(2, 0))
            .missing(2, (x, v) -> x.pay(v, 1));
        t.with(x -> x.use(0, 0, 505)).refused(CANNOT, x -> x.pay(0, 1001)).refused(CANNOT, x -> x.pay(1, 11));
        t.fork().act(0, x -> x.pay(0, 1000)).refused(CANNOT, x -> x.pay(0, 1)).act(0, x -> x.pay(1, 10))
            .reads(1010, x -> x.total(NONE, 1));
        t.act(999, x -> x.pay(0, 1)).reads(999, x -> x.ofGuarantor(0, 2)).reads(1, x -> x.ofGuarantor(0, 3));
        t.refused(CANNOT, x -> x.pay(0, 1000)).act(1, x -> x.pay(0, 998)).act(0, x -> x.pay(0, 1))
            .refused(CANNOT, x -> x.pay(0, 1));
        t.reads(1000, x -> x.total(0, 0)).reads(1000, x -> x.total(0, 1)).reads(0, x -> x.total(1, 1));
        Trial f = Trial.full("4. pay, all places taken").missing(4, (x, v) -> x.pay(v, 1))
            .refused(CANNOT, x -> x.pay(3, 1));
        f.with(x -> x.use(0, 0, 9)).refused(CANNOT, x -> x.pay(0, 10)).act(0, x -> x.pay(0, 9));
    }

    private static void payMost() {
        Trial t = new Trial("4. pay: 9,999,999 at most").with(x -> x.guarantor(9999999), x -> x.store(0, NONE, NONE));
        t.with(x -> x.rate(0, 0, 100), x -> x.rate(1, 0, 99), x -> x.stock(0, 0, 99999), x -> x.stock(0, 1, 1));
        t.act(9999900, x -> x.use(0, 0, 99999)).act(99, x -> x.use(0, 1, 1)).reads(0, x -> x.ofGuarantor(0, 3));
        t.refused(BAD, x -> x.pay(0, 10000000)).act(0, x -> x.pay(0, 9999999)).reads(9999999, x -> x.total(NONE, 1));
    }

    private static void store() {
        Trial none = new Trial("5. store, with no GUARANTORS").refused(BAD, x -> x.store(0, NONE, NONE));
        none.refused(BAD, x -> x.store(NONE, 0, NONE)).refused(BAD, x -> x.store(NONE, NONE, 0))
            .act(0, x -> x.store(NONE, NONE, NONE));
        Trial t = new Trial("5. store: its number. -1 (no GUARANTOR, NONE, one twice); -5");
        t.withEach(0, 2, (x, i) -> x.guarantor(10 + i));
        t.bounds(-1, 2, (x, v) -> x.store(v, NONE, NONE)).bounds(-1, 2, (x, v) -> x.store(NONE, v, NONE));
        t.bounds(-1, 2, (x, v) -> x.store(NONE, NONE, v)).refused(BAD, x -> x.store(0, 0, NONE))
            .refused(BAD, x -> x.store(1, NONE, 1));
        t.refused(BAD, x -> x.store(NONE, 2, 2)).refused(BAD, x -> x.store(0, 0, 0))
            .refused(BAD, x -> x.store(0, 1, 0));
        t.refused(BAD, x -> x.store(0, 1, 3)).refused(BAD, x -> x.store(0, 1, -2)).refused(BAD, x -> x.store(2, 2, 1));
        t.act(0, x -> x.store(2, 0, 1)).act(1, x -> x.store(NONE, 2, 0)).act(2, x -> x.store(1, NONE, 0));
        t.act(3, x -> x.store(NONE, NONE, 1)).act(4, x -> x.store(NONE, NONE, NONE));
        t.readsEach((x, v) -> x.ofStore(v, 6), 2, 2, 1, 1, NONE);
        t.readsEach((x, v) -> x.ofStore(v, 7), 0, 0, 0, NONE, NONE);
        t.readsEach((x, v) -> x.ofStore(v, 8), 1, NONE, NONE, NONE, NONE);
        t.act(5, x -> x.store(0, NONE, NONE)).refused(FULL, x -> x.store(0, 1, 2))
            .refused(FULL, x -> x.store(NONE, NONE, NONE));
        t.refused(BAD, x -> x.store(3, NONE, NONE)).refused(BAD, x -> x.store(1, 1, NONE)).reads(6, x -> x.count(2));
        Trial.full("5. store, all places taken").refused(FULL, x -> x.store(3, 2, 1))
            .refused(BAD, x -> x.store(4, 2, 1));
    }

    private static void order() {
        new Trial("6. order: -2, with none there").missing(0, (x, v) -> x.order(v, NONE, NONE, NONE))
            .refused(BAD, x -> x.order(0, 0, NONE, NONE));
        Trial t = Trial.small("6. order: 0. -1; -2").with(x -> x.guarantor(9));
        t.bounds(-1, 2, (x, v) -> x.order(0, v, NONE, NONE)).bounds(-1, 2, (x, v) -> x.order(0, NONE, v, NONE));
        t.bounds(-1, 2, (x, v) -> x.order(0, NONE, NONE, v)).missing(3, (x, v) -> x.order(v, 0, 1, 2));
        t.refused(BAD, x -> x.order(0, 1, 1, NONE)).refused(BAD, x -> x.order(0, 1, NONE, 1))
            .refused(BAD, x -> x.order(0, NONE, 1, 1));
        t.refused(BAD, x -> x.order(3, 1, 1, NONE)).refused(BAD, x -> x.order(-1, 3, NONE, NONE));
        t.act(0, x -> x.order(0, 0, 1, NONE)).act(0, x -> x.order(2, 2, NONE, 0)).reads(2, x -> x.ofStore(2, 6));
        t.reads(0, x -> x.ofStore(2, 7)).reads(NONE, x -> x.ofStore(2, 8)).reads(1009, x -> x.ofStore(2, 5));
        t.act(0, x -> x.order(2, NONE, NONE, NONE)).reads(NONE, x -> x.ofStore(2, 6)).reads(0, x -> x.ofStore(2, 5));
        t.act(0, x -> x.order(0, 2, 1, 0)).reads(2, x -> x.ofStore(0, 6)).reads(1, x -> x.ofStore(0, 7))
            .reads(0, x -> x.ofStore(0, 8));
        t.reads(1, x -> x.ofStore(1, 6));
        Trial f = Trial.full("6. order, all places taken").missing(6, (x, v) -> x.order(v, 3, 2, 1))
            .refused(BAD, x -> x.order(5, 4, 2, 1));
        f.act(0, x -> x.order(5, 3, NONE, NONE)).reads(400, x -> x.ofGuarantor(3, 1)).reads(0, x -> x.count(4));
    }

    private static void stock() {
        new Trial("7. stock: -2, with none there").missing(0, (x, v) -> x.stock(v, 0, 1))
            .refused(BAD, x -> x.stock(0, 5, 1));
        Trial t = Trial.small("7. stock: what it is. -1; -2; -4 (above 99,999)");
        t.bounds(0, 4, (x, v) -> x.stock(0, v, 1)).bounds(1, 99999, (x, v) -> x.stock(2, 0, v))
            .missing(3, (x, v) -> x.stock(v, 0, 1));
        t.refused(BAD, x -> x.stock(3, 0, 0)).refused(BAD, x -> x.stock(-1, 5, 1))
            .refused(BAD, x -> x.stock(0, 0, 100000));
        t.refused(CANNOT, x -> x.stock(0, 0, 95000)).refused(CANNOT, x -> x.stock(0, 0, 99999));
        t.fork().act(99999, x -> x.stock(0, 0, 94999)).refused(CANNOT, x -> x.stock(0, 0, 1))
            .refused(BAD, x -> x.stock(0, 0, 0));
        t.act(99998, x -> x.stock(0, 0, 94998)).refused(CANNOT, x -> x.stock(0, 0, 2))
            .act(99999, x -> x.stock(0, 0, 1));
        Trial f = Trial.full("7. stock, all places taken").missing(6, (x, v) -> x.stock(v, 0, 1));
        f.refused(CANNOT, x -> x.stock(0, 0, 201)).act(99999, x -> x.stock(0, 0, 200));
    }

    private static void stockOfEach() {
        Trial t = Trial.small("7. STOCK of each STORE, of each KIND");
        for (int s = 0; s < 3; s++) {
            for (int k = 1; k < 5; k++) {
                int store = s;
                int kind = k;
                t.act(10 * s + k, x -> x.stock(store, kind, 10 * store + kind));
            }
        }
        t.reads(21, x -> x.ofStore(2, 1)).reads(14, x -> x.ofStore(1, 4)).reads(5000, x -> x.ofStore(0, 0))
            .reads(0, x -> x.ofStore(2, 0));
        t.reads(10000 + 30 + 120, x -> x.count(11));
    }

    private static void allows() {
        Trial t = new Trial("8. allows: ALLOWS (what 0), CAP (1) of a KIND: what it was. -1");
        t.bounds(0, 4, (x, v) -> x.allows(v, 0, 99)).bounds(0, 4, (x, v) -> x.allows(v, 1, 999))
            .bounds(0, 1, (x, v) -> x.allows(0, v, 9));
        t.bounds(0, 99, (x, v) -> x.allows(4, 0, v)).bounds(0, 999, (x, v) -> x.allows(4, 1, v));
        t.refused(BAD, x -> x.allows(4, 0, 999)).refused(BAD, x -> x.allows(5, 2, 1000))
            .act(0, x -> x.allows(4, 1, 100));
        t.act(100, x -> x.allows(4, 1, 999)).act(0, x -> x.allows(4, 0, 99)).act(99, x -> x.allows(4, 0, 1));
        t.act(999, x -> x.allows(4, 1, 0)).act(1, x -> x.allows(4, 0, 0)).act(0, x -> x.allows(4, 0, 0));
        t.reads(0, x -> x.allowance(3, 9999, 999));
    }

    private static void rateBounds() {
        Trial t = new Trial("9. rate: the RATE that this DAY had. -1");
        t.bounds(0, 4, (x, v) -> x.rate(v, 1, 1)).bounds(0, 9999, (x, v) -> x.rate(0, v, 1))
            .bounds(0, 999, (x, v) -> x.rate(0, 1, v));
        t.act(0, x -> x.rate(0, 0, 7)).act(7, x -> x.rate(0, 0, 8)).act(8, x -> x.rate(0, 9999, 999))
            .act(8, x -> x.rate(0, 9998, 1));
        t.act(999, x -> x.rate(0, 9999, 0)).act(0, x -> x.rate(4, 9999, 5)).reads(8, x -> x.rateOn(0, 9997))
            .reads(5, x -> x.rateOn(4, 9999));
        t.with(x -> x.days(1));
        t.refused(BAD, x -> x.rate(5, 0, 1)).refused(BAD, x -> x.rate(0, 0, 1000)).refused(BAD, x -> x.rate(0, 1, -1));
    }

    private static void rateFromDays() {
        Trial t = new Trial("9. rate: from a DAY behind now; on DAY 0 from 0, too. -4 (the DAY is not behind now)");
        t.act(0, x -> x.rate(0, 0, 4)).act(4, x -> x.rate(0, 1, 5)).with(x -> x.days(1));
        t.refused(CANNOT, x -> x.rate(0, 0, 6)).refused(CANNOT, x -> x.rate(0, 1, 6)).act(5, x -> x.rate(0, 2, 6));
        t.with(x -> x.days(4)).refused(CANNOT, x -> x.rate(0, 4, 1)).refused(CANNOT, x -> x.rate(0, 5, 1))
            .refused(CANNOT, x -> x.rate(0, 0, 1));
        t.act(6, x -> x.rate(0, 6, 1)).reads(6, x -> x.rateOn(0, 5)).reads(1, x -> x.rateOn(0, 6));
        t.refused(BAD, x -> x.rate(0, -1, 1)).refused(BAD, x -> x.rate(0, 0, 1000));
    }

    private static void rateOnLastDays() {
        Trial t = new Trial("9. rate: 9,999 at most").withEach(1, 111, (x, i) -> x.days(90)).with(x -> x.days(8));
        t.refused(CANNOT, x -> x.rate(0, 9998, 1)).refused(BAD, x -> x.rate(0, 10000, 1))
            .act(0, x -> x.rate(0, 9999, 1));
        t.with(x -> x.days(1)).refused(CANNOT, x -> x.rate(0, 9999, 1)).refused(BAD, x -> x.rate(0, 10000, 1))
            .reads(1, x -> x.rateOn(0, 9999));
    }

    private static void rateThatCannotBeHeld() {
        Trial t = Trial.small("9. rate: -4 (it can't be HELD)")
            .with(x -> x.load(0, 1, 0, 100, 5, 0), x -> x.load(0, 1, 0, 50, 9, 0));
        t.refused(CANNOT, x -> x.rate(0, 5, 11)).fork().act(2, x -> x.rate(0, 5, 10)).reads(0, x -> x.ofStore(0, 5));
        t.refused(CANNOT, x -> x.rate(0, 0, 11)).fork().act(2, x -> x.rate(0, 0, 10)).reads(1500, x -> x.count(9));
        t.refused(CANNOT, x -> x.rate(0, 9, 27)).fork().act(2, x -> x.rate(0, 9, 26)).reads(1300, x -> x.ofLoad(1, 9));
        t.act(2, x -> x.rate(0, 10, 999)).reads(300, x -> x.count(9)).refused(BAD, x -> x.rate(0, 5, 1000));
        Trial one = Trial.small("9. rate: -4 by the last of the LOADS, nothing changes")
            .with(x -> x.load(0, 1, 0, 100, 5, 0));
        one.with(x -> x.load(1, 0, 0, 100, 5, 0), x -> x.load(1, 0, 0, 100, 5, 0))
            .refused(CANNOT, x -> x.rate(0, 3, 3));
        one.with(x -> x.limit(1, 599)).refused(CANNOT, x -> x.rate(0, 3, 3)).with(x -> x.limit(1, 600))
            .act(2, x -> x.rate(0, 3, 3));
    }

    private static void twelveRates() {
        Trial t = Trial.small("9. rate: -5 (12 RATES of one KIND)").withEach(1, 10, (x, i) -> x.rate(0, 10 * i, 2));
        t.act(2, x -> x.rate(0, 5, 2)).refused(FULL, x -> x.rate(0, 101, 2)).refused(FULL, x -> x.rate(0, 1, 2))
            .refused(FULL, x -> x.rate(0, 51, 2));
        t.act(2, x -> x.rate(0, 0, 1)).act(2, x -> x.rate(0, 100, 3)).act(2, x -> x.rate(0, 5, 2))
            .act(0, x -> x.rate(1, 1, 9));
        t.refused(FULL, x -> x.rate(0, 9999, 0)).refused(BAD, x -> x.rate(0, 10000, 0))
            .refused(BAD, x -> x.rate(0, 9999, -1));
        t.with(x -> x.load(0, 1, 0, 100, 90, 0)).refused(CANNOT, x -> x.rate(0, 11, 16))
            .refused(FULL, x -> x.rate(0, 11, 15));
        t.refused(CANNOT, x -> x.rate(0, 90, 16)).refused(FULL, x -> x.rate(0, 91, 16));
        t.with(x -> x.days(5)).refused(CANNOT, x -> x.rate(0, 4, 2)).refused(CANNOT, x -> x.rate(0, 5, 2))
            .refused(FULL, x -> x.rate(0, 6, 2));
        t.withEach(1, 11, (x, i) -> x.rate(1, 100 + i, i)).refused(FULL, x -> x.rate(1, 500, 1))
            .act(11, x -> x.rate(1, 111, 1));
        Trial none = new Trial("9. rate: -5, none of the 12 from 0").withEach(1, 12, (x, i) -> x.rate(0, i, i));
        none.refused(FULL, x -> x.rate(0, 0, 1)).refused(FULL, x -> x.rate(0, 13, 1)).act(12, x -> x.rate(0, 12, 1));
        Trial.full("9. rate, all places taken").refused(FULL, x -> x.rate(0, 111, 1))
            .refused(CANNOT, x -> x.rate(0, 90, 999))
            .act(2, x -> x.rate(0, 110, 1)).act(0, x -> x.rate(4, 110, 1));
    }

    private static void terms() {
        Trial t = new Trial("10. terms: what it was. -1").bounds(0, 60, (x, v) -> x.terms(0, v))
            .bounds(0, 1, (x, v) -> x.terms(1, v));
        t.bounds(0, 1, (x, v) -> x.terms(v, 0)).refused(BAD, x -> x.terms(1, 60)).refused(BAD, x -> x.terms(2, 61));
        t.act(30, x -> x.terms(0, 60)).act(60, x -> x.terms(0, 0)).act(0, x -> x.terms(0, 1))
            .reads(1, x -> x.count(13));
        t.act(1, x -> x.terms(1, 0)).act(0, x -> x.terms(1, 0)).act(0, x -> x.terms(1, 1)).reads(1, x -> x.count(14))
            .reads(6, x -> x.count(12));
    }

    private static void load() {
        Trial t = Trial.small("11. load: its number. -1 (KIND, QUANTITY, DAYS, RANK); -2")
            .with(x -> x.stock(0, 4, 9), x -> x.stock(0, 0, 5000));
        t.bounds(0, 4, (x, v) -> x.load(0, 1, v, 1, 1, 0)).bounds(1, 9999, (x, v) -> x.load(0, 1, 0, v, 1, 0));
        t.bounds(1, 90, (x, v) -> x.load(0, 1, 0, 1, v, 0)).bounds(0, 9, (x, v) -> x.load(0, 1, 0, 1, 1, v));
        t.missing(3, (x, v) -> x.load(v, 1, 0, 1, 1, 0)).missing(3, (x, v) -> x.load(0, v, 0, 1, 1, 0))
            .missing(3, (x, v) -> x.load(v, v, 0, 1, 1, 0));
        t.refused(BAD, x -> x.load(3, 1, 5, 1, 1, 0)).refused(BAD, x -> x.load(0, 3, 0, 0, 1, 0))
            .refused(BAD, x -> x.load(3, 3, 0, 1, 91, 0));
        t.refused(BAD, x -> x.load(0, 0, 0, 1, 1, 10)).refused(BAD, x -> x.load(0, 1, 0, 10000, 0, 0));
        t.act(0, x -> x.load(0, 1, 4, 9, 90, 9)).reads(0, x -> x.ofStore(0, 4)).reads(1, x -> x.ofLoad(0, 0))
            .reads(90, x -> x.ofLoad(0, 5));
        t.act(1, x -> x.load(0, 1, 0, 9999, 1, 0)).reads(0, x -> x.ofLoad(1, 0)).reads(1, x -> x.ofStore(0, 0))
            .reads(9, x -> x.ofLoad(0, 6));
    }

    private static void loadCannotBe() {
        Trial t = Trial.small("11. load: -4 (FROM is TO; STOCK is less)").with(x -> x.stock(2, 0, 10));
        t.refused(CANNOT, x -> x.load(0, 0, 0, 1, 1, 0)).refused(CANNOT, x -> x.load(2, 2, 0, 1, 1, 0))
            .refused(CANNOT, x -> x.load(0, 1, 1, 1, 1, 0));
        t.refused(CANNOT, x -> x.load(2, 0, 0, 11, 1, 0)).fork().act(0, x -> x.load(2, 0, 0, 10, 1, 0))
            .reads(0, x -> x.ofStore(2, 0));
        t.act(0, x -> x.load(2, 0, 0, 9, 1, 0)).refused(CANNOT, x -> x.load(2, 0, 0, 2, 1, 0))
            .act(1, x -> x.load(2, 1, 0, 1, 1, 0));
        t.refused(CANNOT, x -> x.load(2, 1, 0, 1, 1, 0)).refused(MISSING, x -> x.load(2, 3, 0, 1, 1, 0))
            .refused(MISSING, x -> x.load(-1, 2, 0, 9999, 1, 0));
    }

    private static void fortyLoads() {
        Trial t = Trial.full("11. load: -5").refused(FULL, x -> x.load(0, 1, 0, 1, 1, 0))
            .refused(FULL, x -> x.load(5, 0, 0, 9999, 90, 9));
        t.refused(CANNOT, x -> x.load(0, 0, 0, 1, 1, 0)).refused(CANNOT, x -> x.load(0, 1, 1, 1, 1, 0))
            .refused(MISSING, x -> x.load(6, 1, 0, 1, 1, 0));
        t.refused(MISSING, x -> x.load(0, 6, 0, 1, 1, 0)).refused(BAD, x -> x.load(0, 1, 0, 1, 1, 10))
            .refused(BAD, x -> x.load(0, 0, 5, 1, 1, 0));
        t.fork().with(x -> x.withdraw(39), x -> x.arrive(38, 10, false, 0))
            .refused(FULL, x -> x.load(0, 1, 0, 1, 1, 0));
        t.act(9, x -> x.undo()).act(39, x -> x.load(0, 1, 0, 1, 1, 0)).refused(FULL, x -> x.load(0, 1, 0, 1, 1, 0));
    }

    private static void withdraw() {
        new Trial("12. withdraw: -2, with none there").missing(0, (x, v) -> x.withdraw(v));
        Trial t = Trial.states(
            "12. withdraw: how many WAIT then. -2; -4 (it does not WAIT; STOCK would be above 99,999)");
        t.missing(5, (x, v) -> x.withdraw(v));
        for (int state = 1; state <= 4; state++) {
            int load = state;
            t.refused(CANNOT, x -> x.withdraw(load));
        }
        t.fork().act(0, x -> x.withdraw(0)).reads(4, x -> x.ofLoad(0, 0)).reads(5010, x -> x.ofStore(1, 0))
            .refused(CANNOT, x -> x.withdraw(0));
        t.fork().with(x -> x.stock(1, 0, 99999 - 4710 - 300)).act(0, x -> x.withdraw(0))
            .reads(99999, x -> x.ofStore(1, 0));
        t.with(x -> x.stock(1, 0, 99999 - 4710 - 299)).refused(CANNOT, x -> x.withdraw(0))
            .refused(MISSING, x -> x.withdraw(5));
        t.with(x -> x.use(1, 0, 1)).act(0, x -> x.withdraw(0)).reads(99999, x -> x.ofStore(1, 0));
        Trial f = Trial.full("12. withdraw, all places taken").missing(40, (x, v) -> x.withdraw(v))
            .refused(CANNOT, x -> x.withdraw(38));
        f.act(19, x -> x.withdraw(39)).act(18, x -> x.withdraw(1)).reads(4, x -> x.ofLoad(39, 0))
            .reads(0, x -> x.ofLoad(37, 0));
    }

    private static void withdrawnThenTurns() {
        Trial t = Trial.small("12. withdraw: how many WAIT then, behind IN TURN").with(x -> x.load(1, 0, 0, 251, 5, 0));
        t.with(x -> x.load(1, 0, 0, 100, 5, 0), x -> x.load(1, 0, 0, 151, 5, 0), x -> x.load(1, 0, 0, 1, 5, 0));
        t.fork().act(3, x -> x.withdraw(2)).fork().act(2, x -> x.withdraw(3)).act(0, x -> x.withdraw(0));
        t.act(2, x -> x.withdraw(0)).reads(1, x -> x.ofLoad(1, 0)).act(0, x -> x.withdraw(2))
            .reads(1, x -> x.ofLoad(3, 0));
    }

    private static void arriveBounds() {
        new Trial("13. arrive: -2, with none there").missing(0, (x, v) -> x.arrive(v, 1, false, 0))
            .refused(BAD, x -> x.arrive(0, -1, false, 0));
        Trial t = Trial.small(
            "13. arrive: REST then. -1 (0 .. 9,999; a DAY above 9,999, below 0, too, if it is asked); -2");
        t.with(x -> x.limit(0, 9999999), x -> x.stock(0, 0, 5000), x -> x.load(0, 1, 0, 9999, 5, 0));
        t.bounds(0, 9999, (x, v) -> x.arrive(0, v, true, 0)).missing(1, (x, v) -> x.arrive(v, 1, false, 0))
            .missing(1, (x, v) -> x.arrive(v, 1, true, 0));
        for (int day : new int[] {-1, 10000, Integer.MIN_VALUE, Integer.MAX_VALUE}) {
            t.refused(BAD, x -> x.arrive(0, 1, true, day)).refused(BAD, x -> x.arrive(0, 9999, true, day))
                .refused(BAD, x -> x.arrive(1, 0, true, day));
            t.refused(MISSING, x -> x.arrive(1, 1, false, day)).refused(CANNOT, x -> x.arrive(0, 0, false, day));
            t.refused(BAD, x -> x.arrive(0, -1, false, day)).fork().act(9998, x -> x.arrive(0, 1, false, day))
                .act(0, x -> x.arrive(0, 9998, false, day));
        }
        t.refused(MISSING, x -> x.arrive(1, 1, true, 9999)).refused(CANNOT, x -> x.arrive(0, 1, true, 9999));
        t.refused(BAD, x -> x.arrive(1, 10000, true, 0)).refused(BAD, x -> x.arrive(0, 10000, true, 1))
            .refused(BAD, x -> x.arrive(-1, -1, false, 0));
        t.fork().act(0, x -> x.arrive(0, 9999, false, 0)).reads(2, x -> x.ofLoad(0, 0))
            .reads(14999, x -> x.ofStore(1, 0));
        t.act(9999, x -> x.arrive(0, 0, true, 0)).reads(2, x -> x.ofLoad(0, 0)).reads(19998, x -> x.count(10))
            .reads(9999, x -> x.ofLoad(0, 11));
    }

    private static void arriveCannotBe() {
        Trial s = Trial.states("13. arrive: -4 (it does not GO)");
        for (int state : new int[] {0, 2, 3, 4}) {
            s.refused(CANNOT, x -> x.arrive(state, 1, false, 0)).refused(CANNOT, x -> x.arrive(state, 1, true, 0))
                .refused(CANNOT, x -> x.arrive(state, 0, true, 0));
        }
        s.act(99, x -> x.arrive(1, 1, false, 0));
        Trial t = Trial.small("13. arrive: -4 (more than REST; nothing, and not the last one)")
            .with(x -> x.load(0, 1, 0, 100, 5, 0));
        t.refused(CANNOT, x -> x.arrive(0, 101, false, 0)).refused(CANNOT, x -> x.arrive(0, 101, true, 0))
            .refused(CANNOT, x -> x.arrive(0, 9999, true, 0));
        t.refused(CANNOT, x -> x.arrive(0, 0, false, 0)).fork().act(100, x -> x.arrive(0, 0, true, 0));
        t.fork().act(0, x -> x.arrive(0, 100, false, 0)).refused(CANNOT, x -> x.arrive(0, 0, true, 0));
        t.act(1, x -> x.arrive(0, 99, false, 0)).refused(CANNOT, x -> x.arrive(0, 2, false, 0))
            .refused(CANNOT, x -> x.arrive(0, 2, true, 0));
        t.refused(MISSING, x -> x.arrive(1, 2, true, 0)).refused(BAD, x -> x.arrive(0, 2, true, -1))
            .act(0, x -> x.arrive(0, 1, true, 0));
        Trial f = Trial.full("13. arrive, all places taken").missing(40, (x, v) -> x.arrive(v, 1, false, 0))
            .refused(CANNOT, x -> x.arrive(39, 1, false, 0));
        f.refused(CANNOT, x -> x.arrive(38, 11, false, 0)).act(0, x -> x.arrive(38, 10, true, 0))
            .act(1, x -> x.arrive(0, 9, true, 0));
    }

    private static void arriveIntoFullStock() {
        Trial t = Trial.small("13. arrive: -4 (STOCK of TO)")
            .with(x -> x.load(0, 1, 0, 100, 5, 0), x -> x.stock(1, 0, 94990));
        t.refused(CANNOT, x -> x.arrive(0, 10, false, 0)).refused(CANNOT, x -> x.arrive(0, 10, true, 0)).fork()
            .act(91, x -> x.arrive(0, 9, true, 0));
        t.act(91, x -> x.arrive(0, 9, false, 0)).reads(99999, x -> x.ofStore(1, 0))
            .refused(CANNOT, x -> x.arrive(0, 1, false, 0));
        t.refused(CANNOT, x -> x.arrive(0, 1, true, 0)).fork().act(91, x -> x.arrive(0, 0, true, 0))
            .reads(99999, x -> x.ofStore(1, 0));
        t.with(x -> x.divert(0, 2)).act(90, x -> x.arrive(0, 1, false, 0)).reads(1, x -> x.ofStore(2, 0));
        Trial k = Trial.small("13. arrive: STOCK of its KIND alone")
            .with(x -> x.load(0, 1, 0, 100, 5, 0), x -> x.stock(1, 1, 99999), x -> x.stock(0, 0, 95099));
        k.act(0, x -> x.arrive(0, 100, false, 0));
    }

    private static void match() {
        new Trial("14. match: -2, with none there").missing(0, (x, v) -> x.match(v, 0, 1))
            .refused(BAD, x -> x.match(0, 0, 0));
        Trial t = Trial.small("14. match: how many LOADS it came of. -1 (KIND, 1 .. 99,999); -2; -4 (too much; STOCK)");
        t.refused(CANNOT, x -> x.match(1, 0, 1)).refused(CANNOT, x -> x.match(1, 0, 99999))
            .missing(3, (x, v) -> x.match(v, 0, 1));
        t.with(x -> x.load(0, 1, 0, 10, 5, 0), x -> x.load(0, 1, 0, 10, 5, 0));
        for (int kind : new int[] {-1, 5, Integer.MIN_VALUE, Integer.MAX_VALUE}) {
            t.refused(BAD, x -> x.match(1, kind, 1)).refused(BAD, x -> x.match(3, kind, 1));
        }
        for (int quantity : new int[] {0, -1, 100000, Integer.MIN_VALUE, Integer.MAX_VALUE}) {
            t.refused(BAD, x -> x.match(1, 0, quantity)).refused(BAD, x -> x.match(-1, 0, quantity));
        }
        t.refused(CANNOT, x -> x.match(1, 4, 1)).refused(CANNOT, x -> x.match(2, 0, 1))
            .refused(CANNOT, x -> x.match(0, 0, 1));
        t.refused(CANNOT, x -> x.match(1, 0, 21)).refused(CANNOT, x -> x.match(1, 0, 99999));
        t.fork().act(1, x -> x.match(1, 0, 1)).refused(CANNOT, x -> x.match(1, 0, 20)).act(2, x -> x.match(1, 0, 19))
            .refused(CANNOT, x -> x.match(1, 0, 1));
        t.fork().act(2, x -> x.match(1, 0, 20)).refused(CANNOT, x -> x.match(1, 0, 1)).reads(2, x -> x.count(6));
        t.with(x -> x.stock(1, 0, 94989)).refused(CANNOT, x -> x.match(1, 0, 11)).fork().act(1, x -> x.match(1, 0, 10))
            .reads(99999, x -> x.ofStore(1, 0));
        t.with(x -> x.stock(1, 0, 10)).refused(CANNOT, x -> x.match(1, 0, 1)).refused(CANNOT, x -> x.match(1, 0, 20));
        Trial f = Trial.full("14. match, all places taken").missing(6, (x, v) -> x.match(v, 0, 1))
            .refused(CANNOT, x -> x.match(1, 0, 201));
        f.act(20, x -> x.match(1, 0, 200)).reads(20, x -> x.count(6)).refused(CANNOT, x -> x.match(1, 0, 1));
    }

    private static void matchMost() {
        Trial t = new Trial("14. match: 99,999 at most")
            .with(x -> x.store(NONE, NONE, NONE), x -> x.store(NONE, NONE, NONE), x -> x.stock(0, 4, 99999));
        t.withEach(0, 9, (x, i) -> x.load(0, 1, 4, 9999, 9, 0))
            .with(x -> x.load(0, 1, 4, 9, 9, 0), x -> x.stock(0, 4, 1), x -> x.load(0, 1, 4, 1, 9, 0));
        t.refused(BAD, x -> x.match(1, 4, 100000)).act(11, x -> x.match(1, 4, 99999))
            .reads(99999, x -> x.ofStore(1, 4));
        t.refused(CANNOT, x -> x.match(1, 4, 1)).reads(1, x -> x.ofLoad(11, 0));
    }

    private static void matchThere() {
        Trial t = Trial.states("14. match: of the LOADS that GO there, of that KIND")
            .with(x -> x.stock(0, 1, 50), x -> x.load(0, 1, 1, 50, 9, 0));
        t.refused(CANNOT, x -> x.match(1, 0, 101)).refused(CANNOT, x -> x.match(0, 0, 1))
            .refused(CANNOT, x -> x.match(1, 1, 51));
        t.fork().act(1, x -> x.match(1, 1, 50)).reads(2, x -> x.ofLoad(5, 0)).reads(1, x -> x.ofLoad(1, 0));
        t.fork().with(x -> x.split(1, 40, 2)).refused(CANNOT, x -> x.match(1, 0, 61)).act(1, x -> x.match(2, 0, 40))
            .act(1, x -> x.match(1, 0, 60));
        t.act(1, x -> x.match(1, 0, 100)).reads(2, x -> x.ofLoad(1, 0)).reads(0, x -> x.ofLoad(1, 11))
            .reads(20, x -> x.count(10));
    }

    private static void split() {
        new Trial("15. split: -2, with none there").missing(0, (x, v) -> x.split(v, 1, 0))
            .refused(BAD, x -> x.split(0, 0, 0));
        Trial t = Trial.small("15. split: the new LOAD. -1 (1 .. 9,999); -2").with(x -> x.load(0, 1, 0, 100, 5, 0));
        for (int quantity : new int[] {0, -1, 10000, Integer.MIN_VALUE, Integer.MAX_VALUE}) {
            t.refused(BAD, x -> x.split(0, quantity, 2)).refused(BAD, x -> x.split(1, quantity, 2))
                .refused(BAD, x -> x.split(0, quantity, 0));
        }
        t.missing(1, (x, v) -> x.split(v, 1, 2)).missing(3, (x, v) -> x.split(0, 1, v))
            .missing(3, (x, v) -> x.split(0, 9999, v));
        t.refused(MISSING, x -> x.split(1, 1, 0)).refused(MISSING, x -> x.split(1, 1, 3));
        t.fork().act(1, x -> x.split(0, 1, 2)).reads(99, x -> x.ofLoad(0, 4)).reads(1, x -> x.ofLoad(1, 4))
            .reads(2, x -> x.ofLoad(1, 9))
            .reads(0, x -> x.ofLoad(1, 14)).reads(NONE, x -> x.ofLoad(0, 14)).act(2, x -> x.split(0, 98, 2))
            .refused(CANNOT, x -> x.split(0, 1, 2)).reads(198, x -> x.sums(0, 1)).reads(200, x -> x.sums(0, 0));
        t.act(1, x -> x.split(0, 99, 2)).reads(1, x -> x.ofLoad(0, 4)).refused(CANNOT, x -> x.split(0, 1, 2))
            .act(2, x -> x.split(1, 98, 1));
        t.reads(1, x -> x.ofLoad(2, 14)).reads(1, x -> x.ofLoad(2, 2)).reads(200, x -> x.count(9));
        t.reads(196, x -> x.sums(1, 1)).reads(198, x -> x.sums(1, 0)).reads(196, x -> x.sums(2, 0));
    }

    private static void splitCannotBe() {
        Trial s = Trial.states("15. split: -4 (it does not GO)");
        for (int state : new int[] {0, 2, 3, 4}) {
            s.refused(CANNOT, x -> x.split(state, 1, 2));
        }
        s.act(5, x -> x.split(1, 99, 2));
        Trial t = Trial.small("15. split: -4 (some came; not less than its QUANTITY; the STORE is FROM, its TO)")
            .with(x -> x.load(0, 1, 0, 100, 5, 0));
        t.refused(CANNOT, x -> x.split(0, 100, 2)).refused(CANNOT, x -> x.split(0, 9999, 2))
            .refused(CANNOT, x -> x.split(0, 1, 0));
        t.refused(CANNOT, x -> x.split(0, 1, 1)).fork().with(x -> x.divert(0, 2)).refused(CANNOT, x -> x.split(0, 1, 2))
            .act(1, x -> x.split(0, 1, 1));
        t.with(x -> x.arrive(0, 1, false, 0)).refused(CANNOT, x -> x.split(0, 1, 2))
            .refused(CANNOT, x -> x.split(0, 98, 2));
        Trial f = Trial.full("15. split: -5, all places taken").refused(FULL, x -> x.split(0, 1, 2))
            .refused(FULL, x -> x.split(38, 9, 5));
        f.refused(CANNOT, x -> x.split(0, 10, 2)).refused(CANNOT, x -> x.split(1, 1, 2))
            .refused(CANNOT, x -> x.split(0, 1, 0));
        f.refused(CANNOT, x -> x.split(0, 1, 1)).refused(MISSING, x -> x.split(40, 1, 2))
            .refused(MISSING, x -> x.split(0, 1, 6)).refused(BAD, x -> x.split(0, 0, 2));
        f.act(9, x -> x.undo()).act(39, x -> x.split(38, 9, 5)).reads(38, x -> x.ofLoad(39, 14))
            .refused(FULL, x -> x.split(0, 1, 2));
    }

    private static void splitMost() {
        Trial t = Trial.small("15. split: less than its QUANTITY, 9,999 at most")
            .with(x -> x.limit(0, 99999), x -> x.stock(0, 0, 4999), x -> x.load(0, 1, 0, 9999, 5, 0));
        t.refused(BAD, x -> x.split(0, 10000, 2)).refused(CANNOT, x -> x.split(0, 9999, 2))
            .act(1, x -> x.split(0, 9998, 2));
        t.reads(2, x -> x.ofLoad(0, 9)).reads(19996, x -> x.ofLoad(1, 9));
        Trial late = Trial.small("15. split: of one that is late, too")
            .with(x -> x.load(0, 1, 0, 10, 5, 3), x -> x.days(9)).act(1, x -> x.split(0, 4, 2));
        late.reads(0, x -> x.ofLoad(1, 7)).reads(5, x -> x.ofLoad(1, 5)).reads(3, x -> x.ofLoad(1, 6))
            .reads(1, x -> x.ofLoad(1, 0));
    }

    private static void use() {
        new Trial("16. use: -2, with none there").missing(0, (x, v) -> x.use(v, 0, 1))
            .refused(BAD, x -> x.use(0, 5, 1));
        Trial t = Trial.small("16. use: what became DUE. -1 (KIND, 1 .. 99,999); -2; -4 (STOCK; FREE)")
            .with(x -> x.stock(0, 4, 7));
        t.missing(3, (x, v) -> x.use(v, 0, 1));
        for (int quantity : new int[] {0, -1, 100000, Integer.MIN_VALUE, Integer.MAX_VALUE}) {
            t.refused(BAD, x -> x.use(0, 0, quantity)).refused(BAD, x -> x.use(3, 0, quantity));
        }
        for (int kind : new int[] {-1, 5, Integer.MIN_VALUE, Integer.MAX_VALUE}) {
            t.refused(BAD, x -> x.use(0, kind, 1)).refused(BAD, x -> x.use(3, kind, 1));
        }
        t.refused(BAD, x -> x.use(3, -1, 1)).refused(CANNOT, x -> x.use(0, 1, 1)).refused(CANNOT, x -> x.use(0, 4, 8))
            .refused(CANNOT, x -> x.use(2, 0, 1));
        t.fork().act(0, x -> x.use(0, 4, 7)).reads(0, x -> x.ofStore(0, 4)).refused(CANNOT, x -> x.use(0, 4, 1))
            .reads(0, x -> x.count(10));
        t.refused(CANNOT, x -> x.use(0, 0, 751)).refused(CANNOT, x -> x.use(0, 0, 5001))
            .refused(CANNOT, x -> x.use(1, 0, 251));
        t.fork().act(1500, x -> x.use(0, 0, 750)).refused(CANNOT, x -> x.use(0, 0, 1))
            .refused(CANNOT, x -> x.use(1, 0, 1)).reads(500, x -> x.total(1, 0));
        t.fork().act(500, x -> x.use(1, 0, 250)).reads(0, x -> x.ofGuarantor(0, 2))
            .refused(CANNOT, x -> x.use(0, 0, 501)).act(1000, x -> x.use(0, 0, 500));
        t.act(1000, x -> x.use(0, 0, 500)).reads(0, x -> x.ofGuarantor(1, 2)).act(2, x -> x.use(0, 0, 1))
            .reads(2, x -> x.ofGuarantor(1, 2));
        t.reads(1000, x -> x.ofGuarantor(0, 2)).reads(0, x -> x.count(9)).reads(4499, x -> x.ofStore(0, 0));
        Trial day = Trial.small("16. use: the RATE of the DAY").with(x -> x.rate(0, 1, 3), x -> x.rate(0, 2, 9))
            .act(2, x -> x.use(0, 0, 1));
        day.with(x -> x.days(1)).act(3, x -> x.use(0, 0, 1)).with(x -> x.days(1)).act(9, x -> x.use(0, 0, 1))
            .reads(14, x -> x.count(10));
        Trial.full("16. use, all places taken").missing(6, (x, v) -> x.use(v, 0, 1))
            .refused(CANNOT, x -> x.use(5, 0, 1)).act(1, x -> x.use(0, 0, 1));
    }

    private static void useMost() {
        Trial t = new Trial("16. use: 99,999 at most, at RATE 999, too").withEach(0, 2, (x, i) -> x.guarantor(9999999));
        t.with(x -> x.store(0, 1, 2), x -> x.stock(0, 0, 99999), x -> x.rate(0, 0, 999))
            .refused(CANNOT, x -> x.use(0, 0, 99999));
        t.refused(CANNOT, x -> x.use(0, 0, 30031)).fork().act(29999970, x -> x.use(0, 0, 30030))
            .reads(27, x -> x.ofStore(0, 5));
        t.with(x -> x.rate(0, 0, 300)).act(29999700, x -> x.use(0, 0, 99999)).reads(29999700, x -> x.count(10))
            .reads(29999700, x -> x.total(NONE, 0));
        t.reads(9999702, x -> x.ofGuarantor(2, 2)).reads(0, x -> x.ofStore(0, 0));
    }

    private static void shift() {
        new Trial("17. shift: -2, with none there").missing(0, (x, v) -> x.shift(v, 0, 1))
            .with(x -> x.guarantor(1), x -> x.guarantor(1)).missing(0, (x, v) -> x.shift(v, 0, 1));
        Trial t = Trial.small("17. shift: how much. -2").with(x -> x.load(0, 1, 0, 100, 5, 0));
        t.missing(1, (x, v) -> x.shift(v, 0, 1)).missing(2, (x, v) -> x.shift(0, v, 1))
            .missing(2, (x, v) -> x.shift(0, 0, v));
        t.missing(2, (x, v) -> x.shift(0, v, v)).refused(MISSING, x -> x.shift(1, 0, 0))
            .refused(MISSING, x -> x.shift(0, 1, 2));
        t.act(200, x -> x.shift(0, 0, 1)).reads(0, x -> x.held(0, 0)).reads(200, x -> x.held(0, 1))
            .reads(1000, x -> x.ofGuarantor(0, 3));
        t.reads(300, x -> x.ofGuarantor(1, 3)).reads(200, x -> x.ofLoad(0, 9)).reads(200, x -> x.sums(0, 0))
            .reads(0, x -> x.sums(0, 1));
        t.act(200, x -> x.shift(0, 1, 0)).reads(200, x -> x.held(0, 0)).reads(0, x -> x.ofGuarantor(1, 1));
        t.with(x -> x.load(1, 0, 0, 150, 5, 0)).act(200, x -> x.shift(0, 0, 1)).reads(500, x -> x.ofGuarantor(1, 1));
        t.act(300, x -> x.shift(1, 1, 0)).reads(300, x -> x.ofGuarantor(0, 1)).reads(200, x -> x.ofGuarantor(1, 1));
        t.reads(300, x -> x.held(1, 0)).reads(200, x -> x.held(0, 1)).reads(300, x -> x.sums(1, 0));
        Trial f = Trial.full("17. shift, all places taken").missing(40, (x, v) -> x.shift(v, 0, 3))
            .missing(4, (x, v) -> x.shift(0, 0, v));
        f.act(20, x -> x.shift(38, 0, 3)).reads(20, x -> x.held(38, 3)).refused(CANNOT, x -> x.shift(39, 0, 3));
    }

    private static void shiftCannotBe() {
        Trial s = Trial.states("17. shift: -4 (it does not GO)");
        for (int state : new int[] {0, 2, 3, 4}) {
            s.refused(CANNOT, x -> x.shift(state, 0, 1)).refused(CANNOT, x -> x.shift(state, 1, 0));
        }
        s.act(200, x -> x.shift(1, 0, 1));
        Trial t = Trial.small("17. shift: -4 (one and the same; FREE of the other is less; nothing is HELD)")
            .with(x -> x.load(0, 1, 0, 250, 5, 0));
        t.refused(CANNOT, x -> x.shift(0, 0, 0)).refused(CANNOT, x -> x.shift(0, 1, 1))
            .refused(CANNOT, x -> x.shift(0, 1, 0));
        t.fork().act(500, x -> x.shift(0, 0, 1)).reads(0, x -> x.ofGuarantor(1, 3))
            .refused(CANNOT, x -> x.shift(0, 0, 1)).act(500, x -> x.shift(0, 1, 0));
        t.fork().with(x -> x.limit(1, 499)).refused(CANNOT, x -> x.shift(0, 0, 1)).with(x -> x.limit(1, 500))
            .act(500, x -> x.shift(0, 0, 1));
        t.fork().with(x -> x.use(1, 0, 1)).refused(CANNOT, x -> x.shift(0, 0, 1)).with(x -> x.pay(1, 2))
            .act(500, x -> x.shift(0, 0, 1));
        t.with(x -> x.stock(0, 1, 5), x -> x.load(0, 1, 1, 5, 5, 0)).refused(CANNOT, x -> x.shift(1, 0, 1))
            .reads(1, x -> x.ofLoad(1, 0));
        Trial b = Trial.small("17. shift: to one that holds some of it already").with(x -> x.load(0, 1, 0, 600, 5, 0))
            .refused(CANNOT, x -> x.shift(0, 0, 1));
        b.with(x -> x.limit(0, 1199)).refused(CANNOT, x -> x.shift(0, 1, 0)).with(x -> x.limit(0, 1200))
            .act(200, x -> x.shift(0, 1, 0)).reads(1200, x -> x.held(0, 0));
    }

    private static void extend() {
        new Trial("18. extend: -2, with none there").missing(0, (x, v) -> x.extend(v, 1))
            .refused(BAD, x -> x.extend(0, 0));
        Trial t = Trial.small("18. extend: its LATEST. -1 (1 .. 90); -2")
            .with(x -> x.days(2), x -> x.load(0, 1, 0, 100, 5, 0));
        t.bounds(1, 90, (x, v) -> x.extend(0, v)).missing(1, (x, v) -> x.extend(v, 1)).refused(BAD, x -> x.extend(1, 0))
            .refused(BAD, x -> x.extend(-1, 91));
        t.fork().act(8, x -> x.extend(0, 1)).reads(6, x -> x.ofLoad(0, 5)).reads(200, x -> x.ofLoad(0, 9))
            .reads(200, x -> x.sums(0, 0));
        t.act(97, x -> x.extend(0, 90)).reads(95, x -> x.ofLoad(0, 5)).reads(2, x -> x.ofLoad(0, 7));
        Trial s = Trial.states("18. extend: -4 (it does not GO)");
        for (int state : new int[] {0, 2, 3, 4}) {
            s.refused(CANNOT, x -> x.extend(state, 1));
        }
        s.act(91, x -> x.extend(1, 1));
        Trial f = Trial.full("18. extend, all places taken").missing(40, (x, v) -> x.extend(v, 1))
            .refused(CANNOT, x -> x.extend(39, 1));
        f.refused(BAD, x -> x.extend(39, 0)).act(180, x -> x.extend(38, 90));
    }

    private static void extendTo180() {
        Trial t = Trial.small("18. extend: -4 (DAYS above 180)")
            .with(x -> x.load(0, 1, 0, 1, 90, 0), x -> x.load(0, 1, 0, 1, 90, 0));
        t.act(180, x -> x.extend(0, 90)).refused(CANNOT, x -> x.extend(0, 1)).refused(CANNOT, x -> x.extend(0, 90))
            .refused(BAD, x -> x.extend(0, 91));
        t.act(179, x -> x.extend(1, 89)).refused(CANNOT, x -> x.extend(1, 2)).act(180, x -> x.extend(1, 1))
            .refused(CANNOT, x -> x.extend(1, 1));
    }

    private static void extendThatCannotBeHeld() {
        Trial t = Trial.small("18. extend: -4 (it can't be HELD)")
            .with(x -> x.rate(0, 7, 15), x -> x.rate(0, 9, 16), x -> x.load(0, 1, 0, 100, 5, 0));
        t.fork().act(6, x -> x.extend(0, 1)).reads(200, x -> x.ofLoad(0, 9)).refused(CANNOT, x -> x.extend(0, 3));
        t.refused(CANNOT, x -> x.extend(0, 4)).refused(CANNOT, x -> x.extend(0, 90)).act(7, x -> x.extend(0, 2));
        t.reads(1500, x -> x.ofLoad(0, 9)).reads(500, x -> x.held(0, 1)).reads(1500, x -> x.sums(0, 0))
            .reads(1500, x -> x.ofLoad(0, 13));
        t.act(8, x -> x.extend(0, 1)).refused(CANNOT, x -> x.extend(0, 1)).with(x -> x.limit(1, 600))
            .act(9, x -> x.extend(0, 1)).reads(600, x -> x.held(0, 1));
        Trial u = Trial.small("18. extend: one too little is FREE")
            .with(x -> x.rate(0, 7, 15), x -> x.load(0, 1, 0, 100, 5, 0), x -> x.limit(0, 999));
        u.refused(CANNOT, x -> x.extend(0, 2)).with(x -> x.limit(0, 1000)).act(7, x -> x.extend(0, 2));
    }

    private static void extendOneThatIsLate() {
        Trial t = Trial.small("18. extend: -4 (LATEST and GRACE below DAY)")
            .with(x -> x.load(0, 1, 0, 10, 5, 0), x -> x.days(9), x -> x.terms(0, 4));
        t.fork().act(6, x -> x.extend(0, 1)).act(0, x -> x.days(1)).act(1, x -> x.days(1));
        t.with(x -> x.terms(0, 3)).refused(CANNOT, x -> x.extend(0, 1)).refused(CANNOT, x -> x.extend(0, 90))
            .refused(BAD, x -> x.extend(0, 91));
        t.with(x -> x.terms(0, 4)).act(10, x -> x.extend(0, 5)).act(0, x -> x.days(5)).act(1, x -> x.days(1))
            .refused(CANNOT, x -> x.extend(0, 1));
    }

    private static void divert() {
        new Trial("19. divert: -2, with none there").missing(0, (x, v) -> x.divert(v, 0));
        Trial t = Trial.states("19. divert: what its TO was. -2; -4 (it does not GO; the STORE is FROM, its TO)");
        t.missing(5, (x, v) -> x.divert(v, 2)).missing(3, (x, v) -> x.divert(1, v)).missing(3, (x, v) -> x.divert(0, v))
            .refused(MISSING, x -> x.divert(5, 3));
        for (int state : new int[] {0, 2, 3, 4}) {
            t.refused(CANNOT, x -> x.divert(state, 2));
        }
        t.refused(CANNOT, x -> x.divert(1, 0)).refused(CANNOT, x -> x.divert(1, 1)).act(1, x -> x.divert(1, 2))
            .refused(CANNOT, x -> x.divert(1, 2));
        t.refused(CANNOT, x -> x.divert(1, 0)).reads(2, x -> x.ofLoad(1, 2)).reads(200, x -> x.ofLoad(1, 9))
            .act(2, x -> x.divert(1, 1));
        Trial f = Trial.full("19. divert, all places taken").missing(40, (x, v) -> x.divert(v, 2))
            .missing(6, (x, v) -> x.divert(0, v));
        f.refused(CANNOT, x -> x.divert(39, 2)).act(1, x -> x.divert(38, 5)).reads(5, x -> x.ofLoad(38, 2));
    }

    private static void days() {
        Trial t = Trial.states("20. days: n 1 .. 90: how many LOADS were LOST. -1; -4 (above 9,999)")
            .bounds(1, 90, (x, v) -> x.days(v));
        t.fork().act(0, x -> x.days(88)).reads(90, x -> x.count(0)).act(1, x -> x.days(1))
            .reads(3, x -> x.ofLoad(1, 0));
        t.act(1, x -> x.days(90)).reads(92, x -> x.count(0)).reads(0, x -> x.count(5)).act(0, x -> x.days(90));
        Trial.full("20. days, all places taken").act(0, x -> x.days(90)).act(0, x -> x.days(30)).act(20, x -> x.days(1))
            .reads(20, x -> x.count(7));
        Trial each = Trial.small("20. days: IN TURN behind each")
            .with(x -> x.rate(0, 5, 1), x -> x.limit(1, 20), x -> x.load(1, 0, 0, 20, 9, 0));
        each.act(0, x -> x.days(9)).reads(5, x -> x.ofLoad(0, 7)).reads(20, x -> x.ofLoad(0, 9))
            .reads(9, x -> x.ofLoad(0, 5));
    }

    private static void undoEach() {
        Trial t = Trial.states("21. undo: all but what is told of REFUSED calls is as it was: that").with(
            x -> x.stock(1, 1, 9), x -> x.use(0, 0, 1), x -> x.allows(0, 0, 3), x -> x.allows(0, 1, 300),
            x -> x.image(1), x -> x.back(1));
        undone(t, 0, x -> x.guarantor(77));
        undone(t, 1, x -> x.limit(1, 700));
        undone(t, 2, x -> x.pay(0, 3));
        undone(t, 3, x -> x.store(1, 0, NONE));
        undone(t, 4, x -> x.order(1, 0, NONE, NONE));
        undone(t, 5, x -> x.stock(0, 3, 12));
        undone(t, 5, x -> x.stock(0, 4, 12));
        undone(t, 6, x -> x.allows(0, 0, 5));
        undone(t, 6, x -> x.allows(0, 1, 5));
        undone(t, 7, x -> x.rate(0, 5, 1));
        undone(t, 7, x -> x.rate(0, 9, 3));
        undone(t, 8, x -> x.terms(0, 31));
        undone(t, 8, x -> x.terms(1, 1));
        undone(t, 9, x -> x.load(0, 1, 0, 5, 5, 5));
        undone(t, 10, x -> x.withdraw(0));
        undone(t, 11, x -> x.arrive(1, 30, false, 0));
        undone(t, 11, x -> x.arrive(1, 30, true, 1));
        undone(t, 12, x -> x.match(1, 0, 100));
        undone(t, 13, x -> x.split(1, 30, 2));
        undone(t, 14, x -> x.use(0, 0, 30));
        undone(t, 15, x -> x.days(90));
        undone(t, 16, x -> x.shift(1, 0, 1));
        undone(t, 17, x -> x.extend(1, 30));
        undone(t, 18, x -> x.divert(1, 2));
    }

    /** The order is looked at whole: those that it has not stand behind it as they did. */
    private static void undoneOrder() {
        Trial t = new Trial("21. undo: of order, GUARANTORS that it has not among them")
            .withEach(0, 3, (x, i) -> x.guarantor(100));
        t.with(x -> x.store(0, 1, 2), x -> x.store(NONE, NONE, NONE), x -> x.rate(0, 0, 1), x -> x.stock(0, 0, 300));
        t.with(x -> x.load(0, 1, 0, 300, 5, 0), x -> x.shift(0, 1, 3), x -> x.order(0, 3, 1, 2)).act(4, x -> x.undo());
        t.with(x -> x.arrive(0, 1, false, 0)).reads(99, x -> x.held(0, 3)).reads(100, x -> x.held(0, 2));
        t.with(x -> x.arrive(0, 0, true, 0)).reads(99, x -> x.total(3, 0)).reads(100, x -> x.total(0, 0));
    }

    /** A place that an undone LOAD had holds nothing of it, of no GUARANTOR. */
    private static void placesBehindUndo() {
        Trial t = new Trial("21. undo: of a LOAD, then another one in its place")
            .withEach(0, 3, (x, i) -> x.guarantor(100));
        t.with(x -> x.store(0, 1, 2), x -> x.store(NONE, NONE, NONE), x -> x.store(3, NONE, NONE),
            x -> x.rate(0, 0, 1));
        t.with(x -> x.stock(0, 0, 300), x -> x.stock(2, 0, 900), x -> x.allows(0, 0, 99), x -> x.allows(0, 1, 99));
        t.with(x -> x.load(0, 1, 0, 300, 5, 0), x -> x.split(0, 90, 2), x -> x.split(0, 70, 2), x -> x.shift(1, 2, 3));
        t.with(x -> x.days(3), x -> x.arrive(1, 50, false, 0), x -> x.arrive(1, 9, true, 1));
        t.withEach(1, 6, (x, i) -> x.undo()).with(x -> x.load(2, 1, 0, 101, 7, 3), x -> x.load(2, 0, 0, 100, 7, 2));
        t.readsEach((x, v) -> x.ofLoad(1, v), 0, 2, 1, 0, 101, 7, 3, NONE, 0, 0, 0, 0, 0, 101, NONE);
        t.readsEach((x, v) -> x.ofLoad(2, v), 1, 2, 0, 0, 100, 7, 2, 0, 0, 100, 0, 0, 0, 100, NONE);
        t.readsEach((x, v) -> x.held(1, v), 0, 0, 0, 0).readsEach((x, v) -> x.held(2, v), 0, 0, 0, 100);
        t.reads(0, x -> x.sums(1, 0)).reads(0, x -> x.sums(1, 1)).reads(100, x -> x.sums(2, 0));
        t.with(x -> x.undo(), x -> x.undo(), x -> x.load(2, 1, 0, 100, 7, 3)).reads(100, x -> x.held(1, 3));
        t.with(x -> x.undo(), x -> x.load(2, 1, 0, 101, 7, 3)).reads(0, x -> x.held(1, 3))
            .reads(0, x -> x.ofLoad(1, 9));
    }

    private static void undone(Trial t, int number, Trial.Call act) {
        t.takenBack(act, x -> x.undo(), number);
    }

    private static void undoKeepsEight() {
        Trial t = Trial.small("21. undo: 8 are kept. -4 there is none").withEach(1, 7, (x, i) -> x.limit(0, 1000 + i));
        t.reads(8, x -> x.count(12)).with(x -> x.limit(0, 1008)).reads(8, x -> x.count(12)).with(x -> x.limit(0, 1009))
            .reads(8, x -> x.count(12));
        for (int i = 8; i >= 1; i--) {
            int left = i;
            t.act(1, x -> x.undo()).reads(1000 + left, x -> x.ofGuarantor(0, 0)).reads(left - 1, x -> x.count(12));
        }
        t.refused(CANNOT, x -> x.undo()).reads(1001, x -> x.ofGuarantor(0, 0));
        t.act(1001, x -> x.limit(0, 1)).reads(1, x -> x.count(12)).act(1, x -> x.undo()).refused(CANNOT, x -> x.undo());
        Trial n = new Trial("21. undo, with fewer than 8").with(x -> x.guarantor(1), x -> x.terms(0, 1));
        n.act(8, x -> x.undo()).act(0, x -> x.undo()).refused(CANNOT, x -> x.undo()).reads(0, x -> x.count(1))
            .reads(30, x -> x.count(13));
        Trial m = new Trial("21. undo, then others").with(x -> x.guarantor(1), x -> x.terms(0, 1), x -> x.days(1))
            .act(15, x -> x.undo()).act(8, x -> x.undo());
        m.with(x -> x.allows(0, 0, 1)).act(6, x -> x.undo()).act(0, x -> x.undo()).refused(CANNOT, x -> x.undo());
    }

    private static void undoLeavesRefusalsTold() {
        Trial t = Trial.small("21. undo: what is told of REFUSED calls stays").refused(BAD, x -> x.days(0))
            .refused(MISSING, x -> x.withdraw(0));
        t.refused(CANNOT, x -> x.pay(0, 1)).act(5, x -> x.undo()).reads(1, x -> x.count(15)).reads(1, x -> x.count(16))
            .reads(1, x -> x.count(17));
        t.refused(CANNOT, x -> x.back(0)).with(x -> x.image(0)).act(5, x -> x.undo()).act(0, x -> x.back(0))
            .reads(2, x -> x.count(17));
    }

    private static void image() {
        Trial t = Trial.small("22. image: k (0, 1) is kept: DAY. -1").bounds(0, 1, (x, v) -> x.image(v))
            .with(x -> x.days(3), x -> x.days(4));
        t.act(7, x -> x.image(0)).reads(8, x -> x.count(12)).with(x -> x.days(1)).act(8, x -> x.image(1))
            .act(15, x -> x.undo()).act(7, x -> x.image(1));
        t.refused(BAD, x -> x.image(2)).act(7, x -> x.back(1)).act(7, x -> x.back(0));
        Trial n = new Trial("22. image of a new object").act(0, x -> x.image(1))
            .with(x -> x.guarantor(5), x -> x.days(2)).act(0, x -> x.back(1)).reads(0, x -> x.count(1));
        n.refused(CANNOT, x -> x.undo()).refused(CANNOT, x -> x.back(0)).act(0, x -> x.guarantor(6));
        Trial f = Trial.full("22. image, all places taken").with(x -> x.days(90)).act(90, x -> x.image(0))
            .act(90, x -> x.back(0));
        f.takenBack(x -> x.match(1, 0, 99), x -> x.back(0), 90).refused(CANNOT, x -> x.undo());
    }

    /** An image of one book, laid over another that differs in all of it. */
    private static void imagesHoldAll() {
        Trial t = new Trial("22. image: of all but what can be undone").with(x -> x.image(0));
        fillBook(t, 0);
        Trial first = t.fork();
        t.act(5, x -> x.image(1)).act(0, x -> x.back(0));
        fillBook(t, 1);
        Trial second = t.fork();
        t.act(5, x -> x.image(0)).refused(BAD, x -> x.back(7)).act(5, x -> x.back(1)).readsAs(first);
        t.act(5, x -> x.back(0)).readsAs(second).act(5, x -> x.back(1)).readsAs(first);
    }

    /** Books that have hardly a number in common: d is 0 or 1. */
    private static void fillBook(Trial t, int d) {
        t.withEach(0, 2 + d, (x, g) -> x.guarantor(4000 + 10 * d + g));
        t.withEach(0, 2 + d, (x, s) -> x.store((s + d) % 3, (s + 1 + d) % 3, NONE));
        t.withEach(0, 2 + d, (x, s) -> x.stock(s, 1 + d, 2000 + 100 * d + s));
        t.with(x -> x.terms(0, 20 + d), x -> x.terms(1, d), x -> x.rate(1 + d, 0, 3 + d));
        t.with(x -> x.allows(1 + d, 0, 70 + d), x -> x.allows(1 + d, 1, 700 + d));
        t.withEach(0, 11, (x, i) -> x.rate(4, 3 * i + d + 1, 100 * d + i)).with(x -> x.days(1 + d));
        t.with(x -> x.load(d, 1 + d, 1 + d, 200 + d, 6 + d, 7 + d), x -> x.split(0, 50 + d, d == 0 ? 2 : 0));
        t.with(x -> x.shift(0, 2 * d, 2 - d), x -> x.arrive(0, 20 + d, false, 0));
        t.with(x -> x.load(1 + d, d, 1 + d, 300 + d, 16 + d, 1 + d), x -> x.arrive(2, 10 + d, true, 1 + d));
        t.with(x -> x.pay(1 - d, 11 + d), x -> x.days(3), x -> x.arrive(1, 10 + 30 * d, true, 2 + d));
        if (d == 1) {
            t.with(x -> x.load(1, 0, 2, 9, 5, 0), x -> x.load(1, 0, 2, 8, 5, 0));
        } else {
            t.with(x -> x.load(0, 1, 1, 40, 6, 7), x -> x.split(3, 7, 2), x -> x.days(1), x -> x.arrive(3, 3, true, 4));
        }
    }

    private static void back() {
        Trial t = Trial.small("23. back: DAY; nothing can be undone then. -1; -4 (it was not kept)");
        t.refused(CANNOT, x -> x.back(0)).refused(CANNOT, x -> x.back(1)).with(x -> x.image(0))
            .refused(CANNOT, x -> x.back(1));
        t.refused(BAD, x -> x.back(-1)).refused(BAD, x -> x.back(2)).with(x -> x.image(1));
        t.bounds(0, 1, (x, v) -> x.back(v)).with(x -> x.days(5), x -> x.load(0, 1, 0, 9, 5, 0), x -> x.image(1))
            .reads(8, x -> x.count(12));
        t.refused(BAD, x -> x.back(-1)).act(0, x -> x.back(0)).reads(0, x -> x.count(12)).reads(0, x -> x.count(3))
            .refused(CANNOT, x -> x.undo());
        t.act(5, x -> x.back(1)).reads(1, x -> x.count(3)).reads(18, x -> x.count(9)).refused(CANNOT, x -> x.undo());
        t.with(x -> x.arrive(0, 9, false, 0)).reads(1, x -> x.count(12)).act(5, x -> x.back(1))
            .reads(1, x -> x.count(5)).reads(0, x -> x.count(12));
    }
}
