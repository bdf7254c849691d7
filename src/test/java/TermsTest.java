/** The document's Terms, sentence by sentence: at each bound that they name, and beside it. */
public final class TermsTest {
    private static final int NONE = Trial.NONE;
    private static final int BAD = Trial.BAD;
    private static final int MISSING = Trial.MISSING;
    private static final int CANNOT = Trial.CANNOT;
    private static final int FULL = Trial.FULL;

    private TermsTest() {
    }

    public static void main(String[] args) {
        dayBounds();
        rateOfADay();
        allowances();
        firstNumbers();
        freeOfAGuarantor();
        numbersOfLoadsStay();
        needOfOneThatWaits();
        needOfOneThatWent();
        holdingJustEnough();
        holdingInOrder();
        holdingForNone();
        releasingInOrder();
        releasingOthers();
        dueInOrder();
        dueOfOthers();
        turnsByRanksAndNumbers();
        turnsWithoutStrict();
        turnsBehindFreeingActs();
        turnsBehindOtherActs();
        turnsBehindNoAct();
        arrivalsInParts();
        daysThatAreAllowedFor();
        allowedIsShortAtMost();
        allowanceIsOfTheQuantity();
        dayOfTheLoss();
        lostBehindGrace();
        lostAtLatest();
        lostBeforeTurns();
        ratesHoldByNumbers();
        ratesReleased();
        ratesOfOtherDaysAndKinds();
        splitHolds();
        matchedByLatest();
        Trial.end("TermsTest");
    }

    private static void dayBounds() {
        Trial t = new Trial("I. DAY 0 .. 9,999 (0 at first)");
        t.reads(0, x -> x.count(0)).withEach(1, 111, (x, i) -> x.days(90)).reads(9990, x -> x.count(0));
        t.refused(CANNOT, x -> x.days(10));
        t.fork().act(0, x -> x.days(8)).refused(CANNOT, x -> x.days(2)).act(0, x -> x.days(1))
            .reads(9999, x -> x.count(0)).refused(CANNOT, x -> x.days(1));
        t.act(0, x -> x.days(9)).reads(9999, x -> x.count(0));
        t.refused(CANNOT, x -> x.days(1)).refused(CANNOT, x -> x.days(90)).refused(BAD, x -> x.days(91));
    }

    private static void rateOfADay() {
        Trial t = new Trial("I. RATE of a DAY: the one told from the latest DAY not behind it; 0 without");
        t.reads(0, x -> x.rateOn(0, 0)).reads(0, x -> x.rateOn(0, 9999));
        t.act(0, x -> x.rate(0, 10, 5)).act(5, x -> x.rate(0, 20, 0)).act(0, x -> x.rate(0, 30, 999));
        t.act(5, x -> x.rate(0, 15, 7));
        int[][] want = {{0, 0}, {9, 0}, {10, 5}, {11, 5}, {14, 5}, {15, 7}, {16, 7}, {19, 7}, {20, 0},
            {21, 0}, {29, 0}, {30, 999}, {31, 999}, {9998, 999}, {9999, 999}};
        for (int[] w : want) {
            t.reads(w[1], x -> x.rateOn(0, w[0]));
        }
        for (int kind = 1; kind <= 4; kind++) {
            int other = kind;
            t.reads(0, x -> x.rateOn(other, 10)).reads(0, x -> x.rateOn(other, 9999));
        }
        t.act(0, x -> x.rate(4, 0, 3)).reads(3, x -> x.rateOn(4, 0)).reads(0, x -> x.rateOn(3, 0));
        t.act(3, x -> x.rate(4, 9999, 8)).reads(3, x -> x.rateOn(4, 9998)).reads(8, x -> x.rateOn(4, 9999));
    }

    private static void allowances() {
        Trial t = new Trial("I. ALLOWANCE: q times (ALLOWS times t, CAP at most) by 10,000, downwards");
        t.reads(0, x -> x.allowance(0, 9999, 999));
        t.act(0, x -> x.allows(0, 0, 2)).reads(0, x -> x.allowance(0, 9999, 999));
        t.act(0, x -> x.allows(0, 1, 999));
        t.reads(0, x -> x.allowance(0, 4999, 1)).reads(1, x -> x.allowance(0, 5000, 1));
        t.reads(1, x -> x.allowance(0, 9999, 1)).reads(2, x -> x.allowance(0, 5000, 2));
        t.reads(0, x -> x.allowance(0, 0, 999)).reads(0, x -> x.allowance(0, 9999, 0));
        t.act(2, x -> x.allows(0, 0, 10)).act(999, x -> x.allows(0, 1, 100));
        t.reads(9, x -> x.allowance(0, 1000, 9)).reads(10, x -> x.allowance(0, 1000, 10));
        t.reads(10, x -> x.allowance(0, 1000, 11)).reads(10, x -> x.allowance(0, 1000, 999));
        t.act(100, x -> x.allows(0, 1, 99)).reads(9, x -> x.allowance(0, 1000, 10))
            .reads(98, x -> x.allowance(0, 9999, 10));
        t.act(10, x -> x.allows(0, 0, 99)).act(99, x -> x.allows(0, 1, 999));
        t.reads(998, x -> x.allowance(0, 9999, 999)).reads(998, x -> x.allowance(0, 9999, 11));
        t.reads(989, x -> x.allowance(0, 9999, 10)).reads(99, x -> x.allowance(0, 999, 11))
            .reads(99, x -> x.allowance(0, 1000, 999));
        t.act(99, x -> x.allows(0, 0, 0)).reads(0, x -> x.allowance(0, 9999, 999));
        t.reads(0, x -> x.allowance(1, 9999, 999));
    }

    private static void firstNumbers() {
        Trial t = new Trial("I. ALLOWS, CAP, HELD, DUE, STOCK 0 at first; GRACE 30, STRICT 1 at first");
        for (int kind = 0; kind <= 4; kind++) {
            int k = kind;
            t.fork().act(0, x -> x.allows(k, 0, 1)).act(0, x -> x.allows(k, 1, 1));
        }
        t.reads(30, x -> x.count(13)).reads(1, x -> x.count(14));
        t.act(0, x -> x.guarantor(9)).reads(0, x -> x.ofGuarantor(0, 1)).reads(0, x -> x.ofGuarantor(0, 2));
        t.act(0, x -> x.store(0, NONE, NONE));
        for (int what = 0; what <= 4; what++) {
            int kind = what;
            t.reads(0, x -> x.ofStore(0, kind));
        }
    }

    private static void freeOfAGuarantor() {
        Trial t = Trial.small("I. FREE: LIMIT less both (HELD, DUE)");
        t.with(x -> x.load(0, 1, 0, 100, 5, 0)).reads(800, x -> x.ofGuarantor(0, 3));
        t.with(x -> x.use(0, 0, 50)).reads(700, x -> x.ofGuarantor(0, 3)).reads(200, x -> x.ofGuarantor(0, 1));
        t.reads(100, x -> x.ofGuarantor(0, 2)).reads(1200, x -> x.ofStore(0, 5)).reads(500, x -> x.ofStore(1, 5));
        t.with(x -> x.use(0, 0, 350)).reads(0, x -> x.ofGuarantor(0, 3)).reads(500, x -> x.ofGuarantor(1, 3));
    }

    private static void numbersOfLoadsStay() {
        Trial t = Trial.states("I. LOADS 0 .. 39, as they come (their numbers stay)");
        t.act(5, x -> x.load(0, 1, 0, 1, 5, 0)).act(6, x -> x.split(1, 1, 2));
        for (int i = 0; i <= 4; i++) {
            int load = i;
            t.reads(load, x -> x.ofLoad(load, 0));
        }
        t.with(x -> x.stock(0, 1, 40)).withEach(7, 39, (x, i) -> x.load(0, 1, 1, 1, 5, 0)).reads(40, x -> x.count(3));
        t.refused(FULL, x -> x.load(0, 1, 1, 1, 5, 0)).refused(FULL, x -> x.split(1, 1, 2));
        t.with(x -> x.arrive(39, 1, false, 0)).refused(FULL, x -> x.load(0, 1, 1, 1, 5, 0));
        t.reads(2, x -> x.ofLoad(39, 0)).reads(1, x -> x.ofLoad(38, 0));
    }

    private static void needOfOneThatWaits() {
        Trial t = Trial.small("I. NEED at a DAY d: the greatest RATE of the DAYS from d to d and DAYS");
        t.with(x -> x.limit(1, 0), x -> x.rate(0, 2, 90), x -> x.rate(0, 3, 4), x -> x.rate(0, 7, 6),
            x -> x.rate(0, 8, 70));
        t.with(x -> x.days(3), x -> x.load(1, 0, 0, 10, 3, 0), x -> x.load(1, 0, 0, 10, 4, 0),
            x -> x.load(1, 0, 0, 10, 5, 0));
        t.reads(40, x -> x.ofLoad(0, 13)).reads(60, x -> x.ofLoad(1, 13)).reads(700, x -> x.ofLoad(2, 13));
        t.fork().with(x -> x.days(4)).reads(700, x -> x.ofLoad(0, 13));
        t.act(4, x -> x.rate(0, 6, 5)).reads(50, x -> x.ofLoad(0, 13)).reads(60, x -> x.ofLoad(1, 13));
        Trial now = Trial.small("I. NEED of one that WAITS: now").with(x -> x.rate(0, 2, 1), x -> x.limit(1, 0));
        now.with(x -> x.load(1, 0, 0, 10, 1, 0)).reads(20, x -> x.ofLoad(0, 13));
        now.with(x -> x.days(1)).reads(20, x -> x.ofLoad(0, 13)).with(x -> x.days(1)).reads(10, x -> x.ofLoad(0, 13));
    }

    private static void needOfOneThatWent() {
        Trial t = Trial.small("I. NEED of one that went: REST, BEGUN to LATEST");
        t.with(x -> x.rate(0, 2, 1), x -> x.rate(0, 6, 9), x -> x.days(1), x -> x.load(0, 1, 0, 100, 4, 0));
        t.reads(200, x -> x.ofLoad(0, 13)).with(x -> x.days(2)).reads(200, x -> x.ofLoad(0, 13));
        t.with(x -> x.days(5)).reads(200, x -> x.ofLoad(0, 13)).with(x -> x.arrive(0, 60, false, 0));
        t.reads(80, x -> x.ofLoad(0, 13)).reads(80, x -> x.ofLoad(0, 9));
        t.with(x -> x.arrive(0, 0, true, 1)).reads(0, x -> x.ofLoad(0, 13));
        Trial.states("I. NEED 0 of others that do not GO").reads(600, x -> x.ofLoad(0, 13))
            .reads(200, x -> x.ofLoad(1, 13)).reads(0, x -> x.ofLoad(2, 13)).reads(0, x -> x.ofLoad(3, 13))
            .reads(0, x -> x.ofLoad(4, 13));
    }

    private static void holdingJustEnough() {
        Trial t = Trial.small("II. It can be HELD, if FREE of all of them is as much");
        t.fork().act(0, x -> x.load(0, 1, 0, 750, 5, 0)).reads(1, x -> x.ofLoad(0, 0))
            .reads(1000, x -> x.held(0, 0)).reads(500, x -> x.held(0, 1)).reads(0, x -> x.ofStore(0, 5));
        t.fork().act(0, x -> x.load(0, 1, 0, 751, 5, 0)).reads(0, x -> x.ofLoad(0, 0)).reads(0, x -> x.count(9))
            .act(1000, x -> x.limit(0, 1001)).reads(0, x -> x.ofLoad(0, 0))
            .act(1001, x -> x.limit(0, 1002)).reads(1, x -> x.ofLoad(0, 0)).reads(1002, x -> x.held(0, 0));
        t.fork().act(0, x -> x.load(0, 1, 0, 749, 5, 0)).reads(2, x -> x.ofStore(0, 5));
        t.fork().with(x -> x.use(0, 0, 1)).act(0, x -> x.load(0, 1, 0, 750, 5, 0)).reads(0, x -> x.ofLoad(0, 0));
    }

    private static void holdingInOrder() {
        Trial t = Trial.small("II. HOLD: of its GUARANTORS in their order as much as is FREE of each, till it is all");
        t.fork().with(x -> x.load(0, 1, 0, 500, 5, 0)).reads(1000, x -> x.held(0, 0)).reads(0, x -> x.held(0, 1))
            .with(x -> x.load(0, 1, 0, 1, 5, 0)).reads(0, x -> x.held(1, 0)).reads(2, x -> x.held(1, 1));
        t.fork().with(x -> x.load(0, 1, 0, 501, 5, 0)).reads(1000, x -> x.held(0, 0)).reads(2, x -> x.held(0, 1));
        t.fork().with(x -> x.order(0, 1, 0, NONE), x -> x.load(0, 1, 0, 251, 5, 0))
            .reads(500, x -> x.held(0, 1)).reads(2, x -> x.held(0, 0));
        t.with(x -> x.guarantor(100), x -> x.guarantor(100), x -> x.order(0, 3, 1, 2), x -> x.use(1, 0, 250));
        t.with(x -> x.load(0, 1, 0, 51, 5, 0)).reads(100, x -> x.held(0, 3)).reads(0, x -> x.held(0, 1));
        t.reads(2, x -> x.held(0, 2)).reads(0, x -> x.held(0, 0)).reads(102, x -> x.sums(0, 0));
    }

    private static void holdingForNone() {
        Trial t = Trial.small("II. HOLD for a STORE of no GUARANTORS")
            .with(x -> x.stock(2, 0, 9), x -> x.stock(2, 1, 9));
        t.act(0, x -> x.load(2, 0, 1, 9, 90, 0)).reads(1, x -> x.ofLoad(0, 0)).reads(0, x -> x.sums(0, 0));
        t.act(1, x -> x.load(2, 0, 0, 1, 1, 0)).reads(0, x -> x.ofLoad(1, 0));
    }

    private static void releasingInOrder() {
        Trial t = Trial.small("II. RELEASE: of the last GUARANTOR of its FROM's order first");
        t.with(x -> x.load(0, 1, 0, 600, 5, 0));
        t.fork().with(x -> x.arrive(0, 99, false, 0)).reads(1000, x -> x.held(0, 0)).reads(2, x -> x.held(0, 1));
        t.fork().with(x -> x.arrive(0, 100, false, 0)).reads(1000, x -> x.held(0, 0)).reads(0, x -> x.held(0, 1));
        t.fork().with(x -> x.arrive(0, 101, false, 0)).reads(998, x -> x.held(0, 0)).reads(0, x -> x.held(0, 1))
            .reads(2, x -> x.ofGuarantor(0, 3)).reads(500, x -> x.ofGuarantor(1, 3)).reads(202, x -> x.sums(0, 1));
        t.with(x -> x.order(0, 1, 0, NONE), x -> x.arrive(0, 101, false, 0));
        t.reads(798, x -> x.held(0, 0)).reads(200, x -> x.held(0, 1));
    }

    private static void releasingOthers() {
        Trial t = fourHolders(
            "II. GUARANTORS that FROM's order has not: of these is RELEASED first, the greatest number first");
        t.fork().with(x -> x.arrive(0, 24, false, 0)).reads(4, x -> x.held(0, 3)).reads(100, x -> x.held(0, 1));
        t.fork().with(x -> x.arrive(0, 25, false, 0)).reads(0, x -> x.held(0, 3)).reads(100, x -> x.held(0, 1));
        t.fork().with(x -> x.arrive(0, 26, false, 0)).reads(0, x -> x.held(0, 3)).reads(96, x -> x.held(0, 1));
        t.fork().with(x -> x.arrive(0, 50, false, 0)).reads(0, x -> x.held(0, 1)).reads(100, x -> x.held(0, 0));
        t.fork().with(x -> x.arrive(0, 51, false, 0)).reads(96, x -> x.held(0, 0)).reads(100, x -> x.held(0, 2));
        t.fork().with(x -> x.arrive(0, 76, false, 0)).reads(0, x -> x.held(0, 0)).reads(96, x -> x.held(0, 2));
        t.with(x -> x.order(0, NONE, NONE, NONE), x -> x.arrive(0, 51, false, 0));
        t.reads(100, x -> x.held(0, 0)).reads(96, x -> x.held(0, 1)).reads(0, x -> x.held(0, 2))
            .reads(0, x -> x.held(0, 3));
    }

    /**
     * A LOAD of 100 with NEED 400, for which each of four GUARANTORS holds 100; its FROM's order is
     * 2, 0. RATES 3, 1, 2 of DAYS 0, 1, 2 and 4 of DAY 5, which is now.
     */
    private static Trial fourHolders(String sentence) {
        return new Trial(sentence).withEach(0, 3, (x, i) -> x.guarantor(100)).with(
            x -> x.store(0, 1, 2), x -> x.store(NONE, NONE, NONE), x -> x.store(NONE, NONE, NONE),
            x -> x.stock(0, 0, 100),
            x -> x.rate(0, 0, 3), x -> x.rate(0, 1, 1), x -> x.rate(0, 2, 2), x -> x.load(0, 1, 0, 100, 9, 0),
            x -> x.shift(0, 2, 3), x -> x.rate(0, 5, 4), x -> x.order(0, 2, 0, NONE), x -> x.days(5));
    }

    private static void dueInOrder() {
        Trial t = Trial.small("II. DUE of a LOAD: of what is HELD for it, of the first GUARANTOR first");
        t.with(x -> x.load(0, 1, 0, 600, 5, 0));
        t.fork().with(x -> x.arrive(0, 101, true, 0)).reads(998, x -> x.ofGuarantor(0, 2))
            .reads(0, x -> x.ofGuarantor(1, 2));
        t.fork().with(x -> x.arrive(0, 100, true, 0)).reads(1000, x -> x.ofGuarantor(0, 2))
            .reads(0, x -> x.ofGuarantor(1, 2));
        t.fork().with(x -> x.arrive(0, 99, true, 0)).reads(1000, x -> x.ofGuarantor(0, 2))
            .reads(2, x -> x.ofGuarantor(1, 2))
            .reads(1002, x -> x.total(NONE, 0)).reads(2, x -> x.total(1, 0)).reads(0, x -> x.count(9));
    }

    private static void dueOfOthers() {
        Trial t = fourHolders("II. GUARANTORS that FROM's order has not: DUE is of them last, the least first");
        t.fork().with(x -> x.arrive(0, 0, true, 1)).reads(100, x -> x.total(2, 0)).reads(0, x -> x.total(0, 0));
        t.fork().with(x -> x.arrive(0, 0, true, 2)).reads(100, x -> x.total(0, 0)).reads(0, x -> x.total(1, 0));
        t.fork().with(x -> x.arrive(0, 0, true, 0)).reads(100, x -> x.total(1, 0)).reads(0, x -> x.total(3, 0))
            .reads(100, x -> x.sums(0, 1)).reads(300, x -> x.count(10));
        t.fork().with(x -> x.arrive(0, 0, true, 5)).reads(100, x -> x.total(3, 0)).reads(400, x -> x.count(10));
        t.with(x -> x.arrive(0, 20, true, 0)).reads(40, x -> x.total(1, 0)).reads(0, x -> x.total(3, 0));
        t.reads(100, x -> x.total(0, 0)).reads(100, x -> x.total(2, 0)).reads(160, x -> x.sums(0, 1));
    }

    private static void turnsByRanksAndNumbers() {
        Trial t = Trial.small("II. IN TURN: by rising RANKS, then numbers; is STRICT 1, none behind one that can't");
        t.with(x -> x.load(1, 0, 0, 251, 5, 4), x -> x.load(1, 0, 0, 1, 5, 4), x -> x.load(1, 0, 0, 1, 5, 5));
        t.reads(3, x -> x.count(4));
        t.fork().with(x -> x.load(1, 0, 0, 1, 5, 3)).reads(1, x -> x.ofLoad(3, 0)).reads(3, x -> x.count(4));
        t.fork().with(x -> x.load(1, 0, 0, 1, 5, 4)).reads(0, x -> x.ofLoad(3, 0)).reads(4, x -> x.count(4));
        t.fork().with(x -> x.load(0, 1, 0, 1, 5, 9)).reads(0, x -> x.ofLoad(3, 0));
        t.fork().with(x -> x.limit(1, 502)).reads(1, x -> x.ofLoad(0, 0)).reads(0, x -> x.ofLoad(1, 0));
        t.fork().with(x -> x.limit(1, 504)).reads(1, x -> x.ofLoad(1, 0)).reads(0, x -> x.ofLoad(2, 0));
        t.with(x -> x.limit(1, 506)).reads(3, x -> x.count(5));
    }

    private static void turnsWithoutStrict() {
        Trial t = Trial.small("II. IN TURN: else each that can").with(x -> x.terms(1, 0));
        t.with(x -> x.load(1, 0, 0, 251, 5, 0)).reads(0, x -> x.ofLoad(0, 0));
        t.with(x -> x.load(1, 0, 0, 200, 5, 1)).reads(1, x -> x.ofLoad(1, 0));
        t.with(x -> x.load(1, 0, 0, 51, 5, 2)).reads(0, x -> x.ofLoad(2, 0));
        t.with(x -> x.load(1, 0, 0, 50, 5, 3)).reads(1, x -> x.ofLoad(3, 0));
        t.with(x -> x.limit(1, 601)).reads(0, x -> x.ofLoad(2, 0)).with(x -> x.limit(1, 602));
        t.reads(1, x -> x.ofLoad(2, 0)).reads(0, x -> x.ofLoad(0, 0));
        t.with(x -> x.limit(1, 9999)).reads(1, x -> x.ofLoad(0, 0));
    }

    private static void turnsBehindFreeingActs() {
        Trial t = Trial.small("II. IN TURN, behind each act that is not REFUSED");
        t.with(x -> x.use(1, 0, 50), x -> x.load(1, 0, 0, 100, 5, 5), x -> x.load(1, 0, 0, 101, 5, 5));
        t.reads(200, x -> x.ofLoad(0, 9)).reads(0, x -> x.ofLoad(1, 0)).reads(200, x -> x.ofGuarantor(1, 3));
        goes(t.fork().act(500, x -> x.limit(1, 502)));
        goes(t.fork().act(98, x -> x.pay(1, 2)));
        goes(t.fork().act(0, x -> x.order(1, 1, 0, NONE)));
        goes(t.fork().act(99, x -> x.arrive(0, 1, false, 0)));
        goes(t.fork().act(0, x -> x.arrive(0, 100, true, 0)));
        goes(t.fork().act(1, x -> x.match(0, 0, 1)));
        goes(t.fork().act(200, x -> x.shift(0, 1, 0)));
        goes(t.fork().act(2, x -> x.rate(0, 1, 1)).reads(0, x -> x.ofLoad(1, 0)).act(2, x -> x.rate(0, 0, 1)));
        t.fork().with(x -> x.load(1, 0, 0, 1, 5, 6)).act(0, x -> x.withdraw(1)).reads(1, x -> x.ofLoad(2, 0));
        t.fork().with(x -> x.load(1, 0, 0, 1, 5, 6)).act(1, x -> x.terms(1, 0)).reads(1, x -> x.ofLoad(2, 0))
            .reads(0, x -> x.ofLoad(1, 0));
        goes(t.fork().with(x -> x.allows(0, 0, 99), x -> x.allows(0, 1, 999)).act(1, x -> x.days(36))
            .reads(36, x -> x.ofLoad(1, 7)));
        t.act(2, x -> x.load(0, 1, 0, 1, 5, 4)).reads(1, x -> x.ofLoad(2, 0)).reads(0, x -> x.ofLoad(1, 0));
    }

    private static void goes(Trial t) {
        t.reads(1, x -> x.ofLoad(1, 0));
    }

    private static void turnsBehindOtherActs() {
        Trial t = Trial.small("II. IN TURN, behind acts that free nothing: what can't be HELD waits on");
        t.with(x -> x.load(1, 0, 0, 100, 5, 5), x -> x.load(1, 0, 0, 200, 5, 5), x -> x.load(1, 0, 0, 1, 5, 5));
        t.fork().with(x -> x.split(0, 10, 2), x -> x.extend(0, 3), x -> x.divert(0, 2), x -> x.use(0, 0, 1),
            x -> x.stock(1, 0, 5), x -> x.guarantor(9), x -> x.store(2, NONE, NONE), x -> x.image(0),
            x -> x.allows(0, 0, 1)).reads(0, x -> x.ofLoad(1, 0)).reads(0, x -> x.ofLoad(2, 0));
        t.refused(BAD, x -> x.limit(1, -1)).reads(0, x -> x.ofLoad(1, 0));
    }

    private static void turnsBehindNoAct() {
        Trial t = Trial.small("II. IN TURN, behind each act (undo(), back() are none)");
        t.with(x -> x.load(1, 0, 0, 300, 5, 5), x -> x.image(0), x -> x.limit(1, 600)).reads(1, x -> x.ofLoad(0, 0));
        t.fork().act(1, x -> x.undo()).reads(0, x -> x.ofLoad(0, 0)).reads(NONE, x -> x.ofLoad(0, 7));
        t.act(0, x -> x.back(0)).reads(0, x -> x.ofLoad(0, 0)).reads(0, x -> x.count(9));
    }

    private static void arrivalsInParts() {
        Trial t = Trial.small(
            "II. ARRIVAL: into STOCK of TO, CAME is as much more, RELEASED what is HELD above its NEED then");
        t.with(x -> x.load(0, 1, 0, 10, 5, 0)).act(9, x -> x.arrive(0, 1, false, 0)).reads(5001, x -> x.ofStore(1, 0));
        t.reads(1, x -> x.ofLoad(0, 8)).reads(18, x -> x.ofLoad(0, 9)).reads(2, x -> x.sums(0, 1))
            .reads(1, x -> x.ofLoad(0, 0));
        t.act(1, x -> x.arrive(0, 8, false, 0)).reads(5009, x -> x.ofStore(1, 0)).reads(9, x -> x.ofLoad(0, 8));
        t.fork().act(0, x -> x.arrive(0, 1, false, 0)).reads(2, x -> x.ofLoad(0, 0)).reads(10, x -> x.ofLoad(0, 8))
            .reads(20, x -> x.sums(0, 1)).reads(0, x -> x.ofLoad(0, 11)).reads(0, x -> x.count(10));
        t.fork().act(1, x -> x.arrive(0, 0, true, 0)).reads(2, x -> x.ofLoad(0, 0)).reads(1, x -> x.ofLoad(0, 11))
            .reads(9, x -> x.ofLoad(0, 8)).reads(2, x -> x.ofLoad(0, 10)).reads(18, x -> x.sums(0, 1))
            .reads(5009, x -> x.ofStore(1, 0));
        t.act(0, x -> x.arrive(0, 1, true, 0)).reads(0, x -> x.ofLoad(0, 11)).reads(20, x -> x.sums(0, 1));
    }

    private static void daysThatAreAllowedFor() {
        Trial t = Trial.small("II. t is how many DAYS from BEGUN to now (to LATEST, if it is behind that)");
        t.with(x -> x.allows(0, 0, 10), x -> x.allows(0, 1, 999), x -> x.days(2), x -> x.load(0, 1, 0, 500, 4, 0));
        t.fork().with(x -> x.arrive(0, 400, true, 2)).reads(0, x -> x.ofLoad(0, 12));
        t.with(x -> x.days(1)).fork().with(x -> x.arrive(0, 300, true, 2)).reads(0, x -> x.ofLoad(0, 12))
            .reads(400, x -> x.ofLoad(0, 10));
        t.with(x -> x.days(1)).fork().with(x -> x.arrive(0, 300, true, 2)).reads(1, x -> x.ofLoad(0, 12))
            .reads(398, x -> x.ofLoad(0, 10));
        t.with(x -> x.allows(0, 0, 20), x -> x.days(1)).fork().with(x -> x.arrive(0, 300, true, 2))
            .reads(3, x -> x.ofLoad(0, 12));
        t.with(x -> x.days(1)).fork().with(x -> x.arrive(0, 300, true, 2)).reads(4, x -> x.ofLoad(0, 12));
        t.with(x -> x.days(1)).fork().with(x -> x.arrive(0, 300, true, 2)).reads(4, x -> x.ofLoad(0, 12));
        t.with(x -> x.days(20)).with(x -> x.arrive(0, 300, true, 2)).reads(4, x -> x.ofLoad(0, 12));
    }

    private static void allowedIsShortAtMost() {
        Trial t = Trial.small("II. ALLOWED is ALLOWANCE of QUANTITY for t, SHORT at most");
        t.with(x -> x.allows(0, 0, 10), x -> x.allows(0, 1, 999), x -> x.load(0, 1, 0, 500, 5, 0), x -> x.days(4));
        t.fork().with(x -> x.arrive(0, 497, true, 0)).reads(2, x -> x.ofLoad(0, 12)).reads(2, x -> x.ofLoad(0, 10));
        t.fork().with(x -> x.arrive(0, 498, true, 0)).reads(2, x -> x.ofLoad(0, 12)).reads(0, x -> x.ofLoad(0, 10));
        t.fork().with(x -> x.arrive(0, 499, true, 0)).reads(1, x -> x.ofLoad(0, 12)).reads(0, x -> x.ofLoad(0, 10));
        t.fork().with(x -> x.arrive(0, 500, true, 0)).reads(0, x -> x.ofLoad(0, 12)).reads(0, x -> x.count(10));
    }

    private static void allowanceIsOfTheQuantity() {
        Trial t = Trial.small("II. ALLOWANCE is of QUANTITY, not of REST or SHORT");
        t.with(x -> x.allows(0, 0, 99), x -> x.allows(0, 1, 400), x -> x.load(0, 1, 0, 500, 5, 0), x -> x.days(5));
        t.with(x -> x.arrive(0, 460, false, 0), x -> x.arrive(0, 10, true, 0));
        t.reads(30, x -> x.ofLoad(0, 11)).reads(20, x -> x.ofLoad(0, 12)).reads(20, x -> x.ofLoad(0, 10));
        Trial s = Trial.small("II. ALLOWANCE of one that was SPLIT: of the QUANTITY that it has then");
        s.with(x -> x.allows(0, 0, 99), x -> x.allows(0, 1, 400), x -> x.load(0, 1, 0, 500, 5, 0), x -> x.days(5));
        s.with(x -> x.split(0, 100, 2), x -> x.arrive(0, 0, true, 0), x -> x.arrive(1, 0, true, 0));
        s.reads(16, x -> x.ofLoad(0, 12)).reads(4, x -> x.ofLoad(1, 12)).reads(960, x -> x.count(10));
    }

    private static void dayOfTheLoss() {
        Trial t = Trial.small("II. DUTY is by the RATE of the DAY of the loss (BEGUN to now, and not behind LATEST)");
        t.with(x -> x.rate(0, 1, 3), x -> x.rate(0, 2, 4), x -> x.rate(0, 3, 5), x -> x.rate(0, 4, 6),
            x -> x.rate(0, 5, 7));
        t.with(x -> x.days(1), x -> x.load(0, 1, 0, 100, 3, 0));
        t.refused(CANNOT, x -> x.arrive(0, 90, true, 0)).refused(CANNOT, x -> x.arrive(0, 90, true, 2));
        t.fork().with(x -> x.arrive(0, 90, true, 1)).reads(30, x -> x.ofLoad(0, 10));
        t.with(x -> x.days(2)).refused(CANNOT, x -> x.arrive(0, 90, true, 0))
            .refused(CANNOT, x -> x.arrive(0, 90, true, 4));
        t.fork().with(x -> x.arrive(0, 90, true, 1)).reads(30, x -> x.ofLoad(0, 10));
        t.fork().with(x -> x.arrive(0, 90, true, 3)).reads(50, x -> x.ofLoad(0, 10));
        t.with(x -> x.days(2)).refused(CANNOT, x -> x.arrive(0, 90, true, 5))
            .refused(CANNOT, x -> x.arrive(0, 90, true, 6));
        t.fork().with(x -> x.arrive(0, 90, true, 4)).reads(60, x -> x.ofLoad(0, 10)).reads(60, x -> x.count(10));
        t.with(x -> x.arrive(0, 90, true, 2)).reads(40, x -> x.ofLoad(0, 10)).reads(560, x -> x.sums(0, 1));
    }

    private static void lostBehindGrace() {
        for (int grace : new int[] {0, 1, 30, 60}) {
            Trial t = Trial.small("II. A DAY: one whose LATEST and GRACE are below DAY is LOST; GRACE " + grace);
            t.with(x -> x.terms(0, grace), x -> x.load(0, 1, 0, 10, 3, 0), x -> x.load(0, 1, 0, 20, 4, 0));
            t.act(0, x -> x.days(3 + grace)).reads(1, x -> x.ofLoad(0, 0));
            t.act(1, x -> x.days(1)).reads(3, x -> x.ofLoad(0, 0)).reads(1, x -> x.ofLoad(1, 0));
            t.act(1, x -> x.days(1)).reads(3, x -> x.ofLoad(1, 0)).reads(2, x -> x.count(7))
                .reads(60, x -> x.count(10));
        }
        Trial t = Trial.small("II. A DAY: each LOAD that GOES, no other")
            .with(x -> x.terms(0, 0), x -> x.load(1, 0, 0, 300, 1, 0));
        t.with(x -> x.load(1, 0, 0, 3, 1, 1), x -> x.withdraw(0), x -> x.arrive(1, 3, true, 0),
            x -> x.load(1, 0, 0, 300, 1, 0));
        t.act(0, x -> x.days(9)).reads(4, x -> x.ofLoad(0, 0)).reads(2, x -> x.ofLoad(1, 0))
            .reads(0, x -> x.ofLoad(2, 0));
        Trial g = Trial.small("II. GRACE that is told less is looked at behind the next DAY alone")
            .with(x -> x.load(0, 1, 0, 10, 3, 0));
        g.with(x -> x.days(9), x -> x.terms(0, 0)).reads(1, x -> x.ofLoad(0, 0)).act(1, x -> x.days(1))
            .reads(3, x -> x.ofLoad(0, 0));
    }

    private static void lostAtLatest() {
        Trial t = Trial.small("II. LOST: all of REST is SHORT, the loss is at LATEST, t is DAYS");
        t.with(x -> x.rate(0, 3, 5), x -> x.rate(0, 4, 3), x -> x.rate(0, 5, 9), x -> x.terms(0, 2));
        t.with(x -> x.allows(0, 0, 20), x -> x.allows(0, 1, 999), x -> x.load(0, 1, 0, 200, 4, 0),
            x -> x.arrive(0, 50, false, 0));
        t.act(1, x -> x.days(7)).reads(150, x -> x.ofLoad(0, 11)).reads(1, x -> x.ofLoad(0, 12))
            .reads(447, x -> x.ofLoad(0, 10));
        t.reads(447, x -> x.ofGuarantor(0, 2)).reads(553, x -> x.sums(0, 1)).reads(0, x -> x.ofLoad(0, 9))
            .reads(50, x -> x.ofLoad(0, 8));
    }

    private static void lostBeforeTurns() {
        Trial t = Trial.small("II. A DAY: DAY is 1 more, then LOST, then IN TURN");
        t.with(x -> x.terms(0, 0), x -> x.allows(0, 0, 99), x -> x.allows(0, 1, 999));
        t.with(x -> x.load(1, 0, 0, 250, 2, 0), x -> x.load(1, 0, 0, 2, 1, 0));
        t.act(0, x -> x.days(2)).reads(0, x -> x.ofLoad(1, 0)).act(1, x -> x.days(1)).reads(1, x -> x.ofLoad(1, 0));
        t.reads(3, x -> x.ofLoad(1, 7)).act(0, x -> x.days(1)).act(1, x -> x.days(1)).reads(3, x -> x.ofLoad(1, 0));
        Trial both = Trial.small(
            "II. A DAY: what is LOST frees for the first, ahead of a later one that can go from that DAY");
        both.with(x -> x.terms(0, 1), x -> x.terms(1, 0), x -> x.rate(0, 1, 0), x -> x.rate(1, 0, 5),
            x -> x.rate(2, 0, 3));
        both.with(x -> x.rate(2, 3, 2), x -> x.stock(1, 1, 100), x -> x.stock(1, 2, 50),
            x -> x.load(1, 0, 0, 200, 1, 0));
        both.with(x -> x.load(1, 0, 1, 100, 9, 1), x -> x.load(1, 0, 2, 50, 9, 2)).reads(400, x -> x.count(9));
        both.act(0, x -> x.days(2)).reads(2, x -> x.count(4)).act(1, x -> x.days(1)).reads(1, x -> x.ofLoad(1, 0));
        both.reads(0, x -> x.ofLoad(2, 0)).reads(100, x -> x.ofLoad(2, 13)).reads(500, x -> x.count(9));
    }

    private static void ratesHoldByNumbers() {
        Trial t = Trial.small("II. A RATE: of all LOADS that GO, by numbers, what is HELD becomes NEED anew");
        t.with(x -> x.limit(0, 400), x -> x.load(0, 1, 0, 100, 9, 9), x -> x.load(0, 1, 0, 100, 5, 0));
        t.fork().act(2, x -> x.rate(0, 5, 3)).reads(200, x -> x.held(0, 0)).reads(100, x -> x.held(0, 1))
            .reads(200, x -> x.held(1, 0)).reads(100, x -> x.held(1, 1));
        t.with(x -> x.limit(0, 450), x -> x.limit(1, 150));
        t.fork().act(2, x -> x.rate(0, 5, 3)).reads(250, x -> x.held(0, 0)).reads(50, x -> x.held(0, 1))
            .reads(200, x -> x.held(1, 0)).reads(100, x -> x.held(1, 1)).reads(300, x -> x.sums(1, 0));
        t.with(x -> x.limit(1, 149)).refused(CANNOT, x -> x.rate(0, 5, 3)).refused(CANNOT, x -> x.rate(0, 0, 3));
        t.act(2, x -> x.rate(0, 6, 3)).reads(300, x -> x.ofLoad(0, 9)).reads(200, x -> x.ofLoad(1, 9));
        t.refused(CANNOT, x -> x.rate(0, 5, 3)).act(2, x -> x.rate(0, 5, 2));
    }

    private static void ratesReleased() {
        Trial t = Trial.small("II. A RATE: more is HELD, less RELEASED").with(x -> x.rate(0, 5, 6));
        t.with(x -> x.load(0, 1, 0, 200, 5, 0)).reads(1000, x -> x.held(0, 0)).reads(200, x -> x.held(0, 1));
        t.act(6, x -> x.rate(0, 5, 4)).reads(800, x -> x.held(0, 0)).reads(0, x -> x.held(0, 1))
            .reads(400, x -> x.sums(0, 1));
        t.act(4, x -> x.rate(0, 5, 1)).reads(400, x -> x.held(0, 0)).act(1, x -> x.rate(0, 5, 0))
            .reads(400, x -> x.held(0, 0));
        t.act(2, x -> x.rate(0, 0, 0)).reads(0, x -> x.ofLoad(0, 9)).reads(1, x -> x.ofLoad(0, 0))
            .reads(1200, x -> x.sums(0, 1));
        t.act(0, x -> x.rate(0, 3, 7)).reads(1400, x -> x.ofLoad(0, 9)).reads(2600, x -> x.sums(0, 0));
    }

    private static void ratesOfOtherDaysAndKinds() {
        Trial t = Trial.small("II. A RATE changes what is HELD for its KIND, of DAYS from BEGUN to LATEST");
        t.with(x -> x.days(1), x -> x.load(0, 1, 0, 100, 4, 0)).act(0, x -> x.rate(1, 2, 999))
            .reads(200, x -> x.ofLoad(0, 9));
        t.act(2, x -> x.rate(0, 6, 999)).reads(200, x -> x.ofLoad(0, 9));
        t.refused(CANNOT, x -> x.rate(0, 5, 999)).act(2, x -> x.rate(0, 5, 3)).reads(300, x -> x.ofLoad(0, 9));
        t.with(x -> x.days(20)).act(999, x -> x.rate(0, 22, 0)).reads(300, x -> x.ofLoad(0, 9));
    }

    private static void splitHolds() {
        Trial t = Trial.small("II. SPLIT: its HELD is its NEED, of the last GUARANTOR first as if it were RELEASED");
        t.with(x -> x.load(0, 1, 0, 600, 5, 0));
        t.fork().with(x -> x.split(0, 99, 2)).reads(198, x -> x.held(1, 1)).reads(0, x -> x.held(1, 0))
            .reads(2, x -> x.held(0, 1));
        t.fork().with(x -> x.split(0, 100, 2)).reads(200, x -> x.held(1, 1)).reads(0, x -> x.held(1, 0))
            .reads(0, x -> x.held(0, 1));
        t.fork().with(x -> x.split(0, 101, 2)).reads(200, x -> x.held(1, 1)).reads(2, x -> x.held(1, 0))
            .reads(998, x -> x.held(0, 0))
            .reads(202, x -> x.sums(0, 1)).reads(1200, x -> x.sums(0, 0)).reads(202, x -> x.sums(1, 0))
            .reads(0, x -> x.sums(1, 1));
        Trial f = fourHolders("II. SPLIT: GUARANTORS that FROM's order has not, the greatest number first");
        f.with(x -> x.split(0, 51, 2)).reads(100, x -> x.held(1, 3)).reads(100, x -> x.held(1, 1))
            .reads(4, x -> x.held(1, 0));
        f.reads(0, x -> x.held(1, 2)).reads(96, x -> x.held(0, 0)).reads(100, x -> x.held(0, 2))
            .reads(400, x -> x.count(9));
    }

    private static void matchedByLatest() {
        Trial t = Trial.small("II. MATCHED: by rising LATEST, then numbers, each as much as its REST, till it is all");
        t.with(x -> x.load(0, 1, 0, 10, 9, 0), x -> x.load(0, 1, 0, 20, 5, 9), x -> x.load(0, 1, 0, 30, 5, 0));
        t.fork().act(1, x -> x.match(1, 0, 19)).reads(1, x -> x.ofLoad(1, 0)).reads(19, x -> x.ofLoad(1, 8))
            .reads(0, x -> x.ofLoad(2, 8));
        t.fork().act(1, x -> x.match(1, 0, 20)).reads(2, x -> x.ofLoad(1, 0)).reads(0, x -> x.ofLoad(2, 8))
            .reads(40, x -> x.sums(1, 1));
        t.fork().act(2, x -> x.match(1, 0, 21)).reads(1, x -> x.ofLoad(2, 8)).reads(1, x -> x.ofLoad(2, 0))
            .reads(58, x -> x.ofLoad(2, 9));
        t.fork().act(2, x -> x.match(1, 0, 50)).reads(2, x -> x.ofLoad(2, 0)).reads(0, x -> x.ofLoad(0, 8));
        t.fork().act(3, x -> x.match(1, 0, 51)).reads(1, x -> x.ofLoad(0, 8)).reads(1, x -> x.count(5));
        t.fork().act(3, x -> x.match(1, 0, 60)).reads(3, x -> x.count(6)).reads(0, x -> x.count(9))
            .reads(5060, x -> x.ofStore(1, 0));
        t.refused(CANNOT, x -> x.match(1, 0, 61));
        t.with(x -> x.days(1), x -> x.load(0, 1, 0, 40, 3, 0)).act(1, x -> x.match(1, 0, 39))
            .reads(39, x -> x.ofLoad(3, 8));
        t.refused(MISSING, x -> x.match(3, 0, 1));
    }
}
