/** Each promise of the document by itself: ordinary calls, its edges, and what it refuses. */
public final class PromiseTest {
    private static final int NONE = BondStores.NONE;
    private static final int BAD = -1;
    private static final int MISSING = -2;
    private static final int CANNOT = -4;
    private static final int FULL = -5;
    private static String part = "";

    private PromiseTest() {
    }

    public static void main(String[] args) {
        newObject();
        guarantors();
        limits();
        payments();
        stores();
        orders();
        stocks();
        allowings();
        rates();
        ratesAndHolds();
        termsOfAll();
        loads();
        turns();
        withdrawals();
        arrivals();
        arrivalsWithNoDayAsked();
        arrivalsWithADayAsked();
        lastArrivals();
        matches();
        splits();
        uses();
        shifts();
        extensions();
        diversions();
        daysAndLosses();
        undoing();
        images();
        readings();
        listings();
        rooms();
        cheapestDays();
        behindAGuarantor();
        freedAndLacks();
        bestFits();
        explanations();
        whatDaysWillBring();
        dutiesIf();
        daysOfRates();
        countsAndStatus();
        leastNumbers();
        freshPlaces();
        fourGuarantors();
        ratesWithoutAFirst();
        fullRates();
        fortyLoads();
        Check.end("PromiseTest");
    }

    private static void due(String what, long got, long want) {
        Check.due(part + ": " + what, got, want);
    }

    /** Two GUARANTORS (1,000, 500), three STORES (0 of both, 1 of the second, 2 of none), RATE 2. */
    private static BondStores small() {
        BondStores x = new BondStores();
        x.guarantor(1000);
        x.guarantor(500);
        x.store(0, 1, NONE);
        x.store(1, NONE, NONE);
        x.store(NONE, NONE, NONE);
        x.rate(0, 0, 2);
        x.stock(0, 0, 5000);
        x.stock(1, 0, 5000);
        return x;
    }

    private static void newObject() {
        part = "1";
        BondStores x = new BondStores();
        for (int what = 0; what <= 18; what++) {
            due("count(" + what + ")", x.count(what), what == 13 ? 30 : what == 14 ? 1 : 0);
        }
        due("status", x.status(), 0);
        due("NONE", NONE, -1);
        due("ofStore", x.ofStore(0, 0), NONE);
        due("total of none", x.total(NONE, 0), 0);
    }

    private static void guarantors() {
        part = "2";
        BondStores x = new BondStores();
        due("below", x.guarantor(-1), BAD);
        due("above", x.guarantor(10000000), BAD);
        due("none came", x.count(1), 0);
        due("least", x.guarantor(0), 0);
        due("most", x.guarantor(9999999), 1);
        due("third", x.guarantor(7), 2);
        due("fourth", x.guarantor(8), 3);
        due("fifth", x.guarantor(9), FULL);
        due("number ahead of room", x.guarantor(-1), BAD);
        due("LIMIT", x.ofGuarantor(1, 0), 9999999);
        due("FREE", x.ofGuarantor(2, 3), 7);
    }

    private static void limits() {
        part = "3";
        BondStores x = small();
        due("below", x.limit(0, -1), BAD);
        due("above", x.limit(0, 10000000), BAD);
        due("number ahead of guarantor", x.limit(9, -1), BAD);
        due("no guarantor", x.limit(2, 1), MISSING);
        due("NONE", x.limit(NONE, 1), MISSING);
        x.load(0, 1, 0, 100, 5, 0);
        x.use(0, 0, 10);
        due("FREE below 0", x.limit(0, 219), CANNOT);
        due("just", x.limit(0, 220), 1000);
        due("FREE", x.ofGuarantor(0, 3), 0);
        due("most", x.limit(0, 9999999), 220);
        x = small();
        x.load(1, 0, 0, 300, 5, 0);
        due("it waits", x.ofLoad(0, 0), 0);
        due("up", x.limit(1, 600), 500);
        due("it goes in turn", x.ofLoad(0, 0), 1);
    }

    private static void payments() {
        part = "4";
        BondStores x = small();
        due("nothing DUE", x.pay(0, 1), CANNOT);
        x.use(0, 0, 100);
        due("nought", x.pay(0, 0), BAD);
        due("above", x.pay(0, 10000000), BAD);
        due("no guarantor", x.pay(2, 1), MISSING);
        due("too much", x.pay(0, 201), CANNOT);
        due("a part", x.pay(0, 150), 50);
        due("the rest", x.pay(0, 50), 0);
        due("paid in all", x.total(0, 1), 200);
        due("DUE in all stays", x.total(0, 0), 200);
        due("FREE", x.ofGuarantor(0, 3), 1000);
        x = small();
        x.use(1, 0, 200);
        x.load(1, 0, 0, 100, 5, 0);
        due("it waits", x.ofLoad(0, 0), 0);
        due("paid", x.pay(1, 100), 300);
        due("it goes in turn", x.ofLoad(0, 0), 1);
    }

    private static void stores() {
        part = "5";
        BondStores x = new BondStores();
        due("no guarantor yet", x.store(0, NONE, NONE), BAD);
        x.guarantor(10);
        x.guarantor(20);
        x.guarantor(30);
        due("none at all", x.store(NONE, NONE, NONE), 0);
        due("moved up", x.store(NONE, 2, 0), 1);
        due("first", x.ofStore(1, 6), 2);
        due("second", x.ofStore(1, 7), 0);
        due("third", x.ofStore(1, 8), NONE);
        due("gap", x.store(1, NONE, 2), 2);
        due("second moved up", x.ofStore(2, 7), 2);
        due("twice", x.store(1, 0, 1), BAD);
        due("twice", x.store(1, 1, NONE), BAD);
        due("twice behind", x.store(NONE, 2, 2), BAD);
        due("not there", x.store(0, 3, NONE), BAD);
        due("below NONE", x.store(0, -2, NONE), BAD);
        due("all three", x.store(2, 1, 0), 3);
        due("FREE of all", x.ofStore(3, 5), 60);
        x.store(0, NONE, NONE);
        due("sixth", x.store(0, NONE, NONE), 5);
        due("seventh", x.store(0, NONE, NONE), FULL);
        due("number ahead of room", x.store(0, 0, NONE), BAD);
        due("STOCK of a new one", x.ofStore(5, 4), 0);
    }

    private static void orders() {
        part = "6";
        BondStores x = small();
        due("twice", x.order(0, 1, 1, NONE), BAD);
        due("not there", x.order(0, 2, NONE, NONE), BAD);
        due("number ahead of store", x.order(9, 2, NONE, NONE), BAD);
        due("no store", x.order(3, 0, NONE, NONE), MISSING);
        due("other", x.order(0, NONE, 1, 0), 0);
        due("first", x.ofStore(0, 6), 1);
        due("second", x.ofStore(0, 7), 0);
        x.load(0, 1, 0, 300, 5, 0);
        due("held of the new first", x.held(0, 1), 500);
        due("held of the new second", x.held(0, 0), 100);
        due("turned", x.order(0, 0, 1, NONE), 0);
        x.arrive(0, 100, false, 0);
        due("released of the last of the order that is", x.held(0, 1), 300);
        due("the first keeps", x.held(0, 0), 100);
        x = small();
        x.load(2, 0, 0, 1, 1, 0);
        x.stock(2, 0, 10);
        x.load(2, 0, 0, 10, 1, 0);
        due("it waits", x.ofLoad(0, 0), 0);
        x.order(2, 1, NONE, NONE);
        due("it goes in turn", x.ofLoad(0, 0), 1);
        x.order(2, NONE, NONE, NONE);
        due("none left", x.ofStore(2, 6), NONE);
        due("FREE of none", x.ofStore(2, 5), 0);
    }

    private static void stocks() {
        part = "7";
        BondStores x = small();
        due("no kind", x.stock(0, 5, 1), BAD);
        due("no kind below", x.stock(0, -1, 1), BAD);
        due("nought", x.stock(0, 0, 0), BAD);
        due("above", x.stock(0, 0, 100000), BAD);
        due("number ahead of store", x.stock(9, 5, 1), BAD);
        due("no store", x.stock(3, 0, 1), MISSING);
        due("more", x.stock(0, 4, 99998), 99998);
        due("too much", x.stock(0, 4, 2), CANNOT);
        due("just full", x.stock(0, 4, 1), 99999);
        due("others stay", x.ofStore(0, 3), 0);
        due("of all", x.count(11), 99999 + 10000);
    }

    private static void allowings() {
        part = "8, 31";
        BondStores x = new BondStores();
        due("no kind", x.allows(5, 0, 1), BAD);
        due("no such", x.allows(0, 2, 1), BAD);
        due("no such below", x.allows(0, -1, 1), BAD);
        due("below", x.allows(0, 0, -1), BAD);
        due("above", x.allows(0, 0, 100), BAD);
        due("CAP above", x.allows(0, 1, 1000), BAD);
        due("CAP below", x.allows(0, 1, -1), BAD);
        due("ALLOWS", x.allows(0, 0, 99), 0);
        due("without CAP nothing", x.allowance(0, 9999, 999), 0);
        due("CAP", x.allows(0, 1, 999), 0);
        due("ALLOWS was", x.allows(0, 0, 10), 99);
        due("CAP was", x.allows(0, 1, 100), 999);
        due("downwards", x.allowance(0, 1999, 5), 9);
        due("just the CAP", x.allowance(0, 1000, 10), 10);
        due("CAP at most", x.allowance(0, 1000, 999), 10);
        due("no days", x.allowance(0, 9999, 0), 0);
        due("nothing", x.allowance(0, 0, 9), 0);
        due("another kind", x.allowance(1, 1000, 10), 0);
        due("no kind", x.allowance(5, 1, 1), NONE);
        due("q below", x.allowance(0, -1, 1), NONE);
        due("q above", x.allowance(0, 10000, 1), NONE);
        due("t below", x.allowance(0, 1, -1), NONE);
        due("t above", x.allowance(0, 1, 1000), NONE);
    }

    private static void rates() {
        part = "9, 30";
        BondStores x = new BondStores();
        due("no kind", x.rate(5, 1, 1), BAD);
        due("day below", x.rate(0, -1, 1), BAD);
        due("day above", x.rate(0, 10000, 1), BAD);
        due("rate below", x.rate(0, 1, -1), BAD);
        due("rate above", x.rate(0, 1, 1000), BAD);
        due("from 0 on day 0", x.rate(0, 0, 5), 0);
        due("ahead", x.rate(0, 10, 7), 5);
        due("between", x.rate(0, 4, 999), 5);
        due("on 0", x.rateOn(0, 0), 5);
        due("on 3", x.rateOn(0, 3), 5);
        due("on 4", x.rateOn(0, 4), 999);
        due("on 9", x.rateOn(0, 9), 999);
        due("on the last", x.rateOn(0, 9999), 7);
        due("another kind", x.rateOn(1, 10), 0);
        due("in place", x.rate(0, 4, 6), 999);
        due("on 4 then", x.rateOn(0, 4), 6);
        due("no day", x.rateOn(0, 10000), NONE);
        due("no day below", x.rateOn(0, -1), NONE);
        due("no kind", x.rateOn(5, 1), NONE);
        x.days(3);
        due("now", x.rate(0, 3, 1), CANNOT);
        due("past", x.rate(0, 2, 1), CANNOT);
        due("0 no more", x.rate(0, 0, 1), CANNOT);
        due("next", x.rate(0, 4, 8), 6);
        for (int i = 0; i < 9; i++) {
            due("room", x.rate(0, 9999 - i, 1), 7);
        }
        due("thirteenth", x.rate(0, 20, 1), FULL);
        due("nothing changed", x.rateOn(0, 20), 7);
        due("in place has room", x.rate(0, 10, 3), 7);
        due("another kind has room", x.rate(1, 20, 1), 0);
        due("day ahead of room", x.rate(0, 3, 1), CANNOT);
    }

    private static void ratesAndHolds() {
        part = "9 and holds";
        BondStores x = small();
        x.load(0, 1, 0, 400, 5, 0);
        x.load(0, 1, 0, 100, 9, 0);
        due("held", x.count(9), 1000);
        due("beyond the latest", x.rate(0, 10, 999), 2);
        due("nothing more held", x.count(9), 1000);
        due("more than is FREE", x.rate(0, 9, 8), CANNOT);
        due("refused: as it was", x.rateOn(0, 9), 2);
        due("refused: held as it was", x.ofLoad(1, 9), 200);
        due("on the latest day", x.rate(0, 9, 7), 2);
        due("the first is not touched", x.ofLoad(0, 9), 800);
        due("grew", x.ofLoad(1, 9), 700);
        due("of the second guarantor", x.held(1, 1), 500);
        due("held in all", x.sums(1, 0), 700);
        due("fell", x.rate(0, 9, 1), 7);
        due("released", x.sums(1, 1), 500);
        due("of the last guarantor", x.held(1, 1), 0);
        due("of the first it keeps", x.held(1, 0), 200);
        due("from 0 on day 0", x.rate(0, 0, 3), 2);
        due("both grew", x.count(9), 1500);
        due("from 0, too much", x.rate(0, 0, 4), CANNOT);
        for (int i = 0; i < 9; i++) {
            x.rate(0, 100 + i, 1);
        }
        due("full, in place", x.rate(0, 9, 2), 1);
        due("holding ahead of room", x.rate(0, 1, 999), CANNOT);
        due("room, if it can be held", x.rate(0, 50, 1), FULL);
        due("waiting ones go by a lower rate", waitsForLowerRate(), 1);
    }

    private static int waitsForLowerRate() {
        BondStores x = small();
        x.rate(0, 2, 9);
        x.load(1, 0, 0, 100, 5, 0);
        due("it waits", x.ofLoad(0, 0), 0);
        due("NEED", x.ofLoad(0, 13), 900);
        x.rate(0, 2, 5);
        return x.ofLoad(0, 0);
    }

    private static void termsOfAll() {
        part = "10";
        BondStores x = new BondStores();
        due("no such", x.terms(2, 0), BAD);
        due("no such below", x.terms(-1, 0), BAD);
        due("GRACE below", x.terms(0, -1), BAD);
        due("GRACE above", x.terms(0, 61), BAD);
        due("STRICT above", x.terms(1, 2), BAD);
        due("STRICT below", x.terms(1, -1), BAD);
        due("GRACE", x.terms(0, 60), 30);
        due("GRACE", x.terms(0, 0), 60);
        due("STRICT", x.terms(1, 0), 1);
        due("STRICT", x.terms(1, 1), 0);
    }

    private static void loads() {
        part = "11";
        BondStores x = small();
        due("kind", x.load(0, 1, 5, 1, 1, 0), BAD);
        due("quantity", x.load(0, 1, 0, 0, 1, 0), BAD);
        due("quantity", x.load(0, 1, 0, 10000, 1, 0), BAD);
        due("days", x.load(0, 1, 0, 1, 0, 0), BAD);
        due("days", x.load(0, 1, 0, 1, 91, 0), BAD);
        due("rank", x.load(0, 1, 0, 1, 1, -1), BAD);
        due("rank", x.load(0, 1, 0, 1, 1, 10), BAD);
        due("number ahead of store", x.load(9, 9, 0, 1, 1, 10), BAD);
        due("no from", x.load(3, 1, 0, 1, 1, 0), MISSING);
        due("no to", x.load(0, -1, 0, 1, 1, 0), MISSING);
        due("from is to", x.load(0, 0, 0, 1, 1, 0), CANNOT);
        due("stock", x.load(0, 1, 0, 5001, 1, 0), CANNOT);
        due("the first", x.load(0, 2, 0, 500, 90, 9), 0);
        int[] want = {1, 0, 2, 0, 500, 90, 9, 0, 0, 1000, 0, 0, 0, 1000, NONE};
        for (int what = 0; what < want.length; what++) {
            due("ofLoad(0, " + what + ")", x.ofLoad(0, what), want[what]);
        }
        due("stock left", x.ofStore(0, 0), 4500);
        for (int i = 1; i < 40; i++) {
            due("number", x.load(0, 1, 0, 1, 1, 0), i);
        }
        due("no room", x.load(0, 1, 0, 1, 1, 0), FULL);
        due("stock ahead of room", x.load(2, 1, 0, 1, 1, 0), CANNOT);
    }

    private static void turns() {
        part = "IN TURN";
        BondStores x = small();
        x.limit(0, 0);
        x.load(0, 1, 0, 251, 5, 4);
        x.load(0, 1, 0, 10, 5, 5);
        due("strict: none behind", x.count(4), 2);
        x.load(0, 1, 0, 20, 5, 4);
        due("of one rank by numbers", x.ofLoad(2, 0), 0);
        x.load(0, 1, 0, 30, 5, 3);
        due("a lower rank goes ahead", x.ofLoad(3, 0), 1);
        x.terms(1, 0);
        due("not strict: each that can", x.count(5), 3);
        due("the first still waits", x.ofLoad(0, 0), 0);
        x.limit(1, 502 + 120);
        due("just enough", x.ofLoad(0, 0), 1);
        x = small();
        x.rate(0, 3, 1);
        x.rate(0, 1, 9);
        x.load(1, 0, 0, 100, 1, 0);
        due("NEED of both days", x.ofLoad(0, 13), 900);
        x.days(2);
        due("day 2 has 9, too", x.ofLoad(0, 0), 0);
        x.days(1);
        due("goes from that day on", x.ofLoad(0, 7), 3);
        due("held", x.ofLoad(0, 9), 100);
        due("latest", x.listed(1, 0), 0);
        x = small();
        x.rate(1, 0, 0);
        x.stock(2, 1, 10);
        due("nothing to hold", x.load(2, 0, 1, 10, 1, 0), 0);
        due("needs no guarantor", x.ofLoad(0, 0), 1);
    }

    private static void withdrawals() {
        part = "12";
        BondStores x = small();
        x.load(1, 0, 0, 251, 5, 0);
        x.load(1, 0, 0, 252, 5, 1);
        x.load(1, 0, 0, 253, 5, 2);
        due("no load", x.withdraw(3), MISSING);
        due("no load below", x.withdraw(-1), MISSING);
        due("stock without it", x.ofStore(1, 0), 5000 - 756);
        due("two wait", x.withdraw(1), 2);
        due("state", x.ofLoad(1, 0), 4);
        due("in stock again", x.ofStore(1, 0), 5000 - 504);
        due("again", x.withdraw(1), CANNOT);
        due("BEGUN of it", x.ofLoad(1, 7), NONE);
        due("NEED of it", x.ofLoad(1, 13), 0);
        x.stock(1, 0, 99999 - 4496 - 252);
        due("stock too full", x.withdraw(2), CANNOT);
        due("stock just full", x.withdraw(0), 1);
        x = small();
        x.load(1, 0, 0, 251, 5, 0);
        x.load(1, 0, 0, 10, 5, 0);
        due("the one behind goes", x.withdraw(0), 0);
        due("it goes", x.ofLoad(1, 0), 1);
        due("one that goes", x.withdraw(1), CANNOT);
    }

    private static void arrivals() {
        part = "13";
        BondStores x = small();
        x.days(1);
        x.load(0, 1, 0, 600, 5, 0);
        x.load(1, 0, 0, 900, 5, 0);
        due("quantity below", x.arrive(0, -1, true, 1), BAD);
        due("quantity above", x.arrive(0, 10000, true, 1), BAD);
        due("loss above", x.arrive(0, 1, true, 10000), BAD);
        due("loss below", x.arrive(0, 1, true, -1), BAD);
        due("number ahead of load", x.arrive(9, -1, true, 1), BAD);
        due("no load", x.arrive(2, 1, true, 1), MISSING);
        due("it waits", x.arrive(1, 1, true, 1), CANNOT);
        due("more than REST", x.arrive(0, 601, false, 1), CANNOT);
        due("nothing, not the last", x.arrive(0, 0, false, 1), CANNOT);
        due("loss ahead of BEGUN", x.arrive(0, 1, true, 0), CANNOT);
        due("loss behind now", x.arrive(0, 1, true, 2), CANNOT);
        due("held", x.held(0, 0), 1000);
        due("held", x.held(0, 1), 200);
        due("a part, no loss asked", x.arrive(0, 150, false, -1), 450);
        due("released of the last first", x.held(0, 1), 0);
        due("then of the first", x.held(0, 0), 900);
        due("released in all", x.sums(0, 1), 300);
        due("came", x.ofLoad(0, 8), 150);
        due("state", x.ofLoad(0, 0), 1);
        due("stock there", x.ofStore(1, 0), 5000 - 900 + 150);
        due("no REST: ended though not told", x.arrive(0, 450, false, NONE), 0);
        due("ended", x.ofLoad(0, 0), 2);
        due("nothing held", x.count(9), 0);
        due("nothing short", x.ofLoad(0, 11), 0);
        due("nothing due", x.count(10), 0);
        due("ended one", x.arrive(0, 0, true, 1), CANNOT);
        x = small();
        x.stock(1, 0, 94000);
        x.load(0, 1, 0, 700, 5, 0);
        x.stock(1, 0, 300);
        due("stock of TO just full", x.arrive(0, 699, false, 0), 1);
        due("stock of TO too full", x.arrive(0, 1, true, 0), CANNOT);
        due("nothing more comes", x.arrive(0, 0, true, 0), 1);
    }

    /** Issue 5: what is not asked can be no number that can't be, above 9,999 as little as below 0. */
    private static void arrivalsWithNoDayAsked() {
        part = "13, no day asked";
        int[] days = {Integer.MIN_VALUE, -1, 0, 9999, 10000, 16383, Integer.MAX_VALUE};
        for (int day : days) {
            BondStores x = new BondStores();
            due("no load, " + day, x.arrive(0, 0, false, day), MISSING);
            due("status, " + day, x.status(), MISSING);
            due("none by -1, " + day, x.count(15), 0);
            due("a bad quantity all the same, " + day, x.arrive(0, -1, false, day), BAD);
            due("a bad quantity all the same, " + day, x.arrive(0, 10000, false, day), BAD);
            x = small();
            x.load(0, 1, 0, 600, 5, 0);
            x.load(1, 0, 0, 900, 5, 0);
            due("it waits, " + day, x.arrive(1, 1, false, day), CANNOT);
            due("nothing, " + day, x.arrive(0, 0, false, day), CANNOT);
            due("too much, " + day, x.arrive(0, 601, false, day), CANNOT);
            due("a part, " + day, x.arrive(0, 200, false, day), 400);
            due("goes on, " + day, x.ofLoad(0, 0), 1);
            due("the rest, " + day, x.arrive(0, 400, false, day), 0);
            due("ended, " + day, x.ofLoad(0, 0), 2);
            due("no duty, " + day, x.ofLoad(0, 10), 0);
            due("all released, " + day, x.sums(0, 1), 1200);
        }
    }

    /** Asked of one that is told as the last, though nothing of it is short. */
    private static void arrivalsWithADayAsked() {
        part = "13, a day asked";
        BondStores x = new BondStores();
        int[] bad = {Integer.MIN_VALUE, -1, 10000, 16383, Integer.MAX_VALUE};
        for (int day : bad) {
            due("ahead of no load, " + day, x.arrive(0, 0, true, day), BAD);
        }
        due("by -1", x.count(15), bad.length);
        due("least day, no load", x.arrive(0, 0, true, 0), MISSING);
        due("last day, no load", x.arrive(0, 0, true, 9999), MISSING);
        x = small();
        x.load(0, 1, 0, 600, 5, 0);
        for (int day : bad) {
            due("all comes, " + day, x.arrive(0, 600, true, day), BAD);
        }
        due("all comes, a day behind now", x.arrive(0, 600, true, 1), CANNOT);
        due("all comes", x.arrive(0, 600, true, 0), 0);
    }

    private static void lastArrivals() {
        part = "13, the last";
        BondStores x = small();
        x.allows(0, 0, 50);
        x.allows(0, 1, 120);
        x.rate(0, 1, 3);
        x.load(0, 1, 0, 400, 4, 0);
        due("held at the greatest", x.ofLoad(0, 9), 1200);
        x.days(2);
        due("short by 30", x.arrive(0, 370, true, 0), 30);
        due("SHORT", x.ofLoad(0, 11), 30);
        due("ALLOWED for 2 days", x.ofLoad(0, 12), 4);
        due("DUTY by the day of the loss", x.ofLoad(0, 10), 52);
        due("due of the first guarantor", x.ofGuarantor(0, 2), 52);
        due("none of the second", x.ofGuarantor(1, 2), 0);
        due("released", x.sums(0, 1), 1148);
        due("held no more", x.ofLoad(0, 9), 0);
        due("total", x.total(NONE, 0), 52);
        x = small();
        x.allows(0, 0, 50);
        x.allows(0, 1, 999);
        x.load(0, 1, 0, 400, 4, 0);
        x.days(9);
        due("late: loss behind LATEST", x.arrive(0, 399, true, 5), CANNOT);
        due("late: loss on LATEST", x.arrive(0, 391, true, 4), 9);
        due("late: days to LATEST alone", x.ofLoad(0, 12), 8);
        due("late: duty", x.ofLoad(0, 10), 2);
        x = small();
        x.allows(0, 0, 99);
        x.allows(0, 1, 999);
        x.load(0, 1, 0, 400, 4, 0);
        x.days(4);
        due("less short than allowed", x.arrive(0, 395, true, 2), 5);
        due("ALLOWED is SHORT at most", x.ofLoad(0, 12), 5);
        due("no duty", x.ofLoad(0, 10), 0);
        x = small();
        x.load(0, 1, 0, 700, 4, 0);
        due("all short", x.arrive(0, 0, true, 0), 700);
        due("due of the first", x.ofGuarantor(0, 2), 1000);
        due("due of the second", x.ofGuarantor(1, 2), 400);
        due("nothing released", x.sums(0, 1), 0);
    }

    private static void matches() {
        part = "14";
        BondStores x = small();
        x.limit(0, 9999999);
        x.load(0, 1, 0, 30, 9, 0);
        x.load(0, 1, 0, 20, 3, 0);
        x.load(0, 1, 0, 10, 3, 0);
        x.load(0, 2, 0, 500, 1, 0);
        due("kind", x.match(1, 5, 1), BAD);
        due("nought", x.match(1, 0, 0), BAD);
        due("above", x.match(1, 0, 100000), BAD);
        due("number ahead of store", x.match(9, 0, 0), BAD);
        due("no store", x.match(3, 0, 1), MISSING);
        due("too much", x.match(1, 0, 61), CANNOT);
        due("another kind", x.match(1, 1, 1), CANNOT);
        due("two, by LATEST and numbers", x.match(1, 0, 25), 2);
        due("the first is ended", x.ofLoad(1, 0), 2);
        due("of the next some came", x.ofLoad(2, 8), 5);
        due("released", x.ofLoad(2, 9), 10);
        due("the later one none", x.ofLoad(0, 8), 0);
        due("in stock", x.ofStore(1, 0), 5025);
        due("one to its end", x.match(1, 0, 5), 1);
        due("ended", x.ofLoad(2, 0), 2);
        x.stock(1, 0, 99999 - 5030 - 29);
        due("stock too full", x.match(1, 0, 30), CANNOT);
        due("stock just full", x.match(1, 0, 29), 1);
        due("one is left", x.ofLoad(0, 9), 2);
        due("undone", x.undo(), 12);
        due("stock again", x.ofStore(1, 0), 99970);
    }

    private static void splits() {
        part = "15";
        BondStores x = small();
        x.days(2);
        x.load(0, 1, 0, 600, 5, 3);
        x.load(1, 0, 0, 900, 5, 3);
        due("nought", x.split(0, 0, 2), BAD);
        due("above", x.split(0, 10000, 2), BAD);
        due("number ahead of load", x.split(9, 0, 2), BAD);
        due("no load", x.split(2, 1, 2), MISSING);
        due("no store", x.split(0, 1, 3), MISSING);
        due("it waits", x.split(1, 1, 2), CANNOT);
        due("all of it", x.split(0, 600, 2), CANNOT);
        due("to its FROM", x.split(0, 1, 0), CANNOT);
        due("to its TO", x.split(0, 1, 1), CANNOT);
        x.days(1);
        due("the new one", x.split(0, 150, 2), 2);
        int[] want = {1, 0, 2, 0, 150, 5, 3, 2, 0, 300, 0, 0, 0, 300, 0};
        for (int what = 0; what < want.length; what++) {
            due("ofLoad(2, " + what + ")", x.ofLoad(2, what), want[what]);
        }
        due("of the last guarantor first", x.held(2, 1), 200);
        due("then of the first", x.held(2, 0), 100);
        due("the first one's", x.held(0, 0), 900);
        due("its quantity", x.ofLoad(0, 4), 450);
        due("released of the one", x.sums(0, 1), 300);
        due("held in all stays", x.sums(0, 0), 1200);
        due("held of the other", x.sums(2, 0), 300);
        due("released of the other", x.sums(2, 1), 0);
        due("held of all stays", x.count(9), 1200);
        due("not split", x.ofLoad(0, 14), NONE);
        x.arrive(0, 1, false, 0);
        due("some came", x.split(0, 5, 2), CANNOT);
        due("split again", x.split(2, 149, 1), 3);
        due("of which", x.ofLoad(3, 14), 2);
        x = small();
        x.load(0, 1, 0, 200, 5, 3);
        for (int i = 1; i < 40; i++) {
            due("number", x.split(0, 1, 2), i);
        }
        due("no room", x.split(0, 1, 2), FULL);
        due("what stands ahead of room", x.split(0, 161, 2), CANNOT);
    }

    private static void uses() {
        part = "16";
        BondStores x = small();
        due("kind", x.use(0, -1, 1), BAD);
        due("nought", x.use(0, 0, 0), BAD);
        due("above", x.use(0, 0, 100000), BAD);
        due("number ahead of store", x.use(9, 0, 0), BAD);
        due("no store", x.use(3, 0, 1), MISSING);
        due("stock", x.use(0, 0, 5001), CANNOT);
        due("free", x.use(0, 0, 751), CANNOT);
        due("by the order", x.use(0, 0, 600), 1200);
        due("of the first", x.ofGuarantor(0, 2), 1000);
        due("of the second", x.ofGuarantor(1, 2), 200);
        due("stock left", x.ofStore(0, 0), 4400);
        due("became DUE in all", x.total(NONE, 0), 1200);
        due("just free", x.use(0, 0, 150), 300);
        due("FREE", x.ofStore(0, 5), 0);
        x.stock(2, 1, 7);
        due("no rate, no guarantor", x.use(2, 1, 7), 0);
        x = small();
        x.rate(0, 1, 5);
        x.days(1);
        due("the rate of the day", x.use(0, 0, 10), 50);
    }

    private static void shifts() {
        part = "17";
        BondStores x = small();
        x.guarantor(300);
        x.load(0, 1, 0, 600, 5, 0);
        x.load(1, 0, 0, 900, 5, 0);
        due("no load", x.shift(2, 0, 1), MISSING);
        due("no from", x.shift(0, 3, 1), MISSING);
        due("no to", x.shift(0, 0, NONE), MISSING);
        due("the same", x.shift(0, 0, 0), CANNOT);
        due("it waits", x.shift(1, 0, 1), CANNOT);
        due("not so much FREE", x.shift(0, 0, 2), CANNOT);
        due("nothing held", x.shift(0, 2, 0), CANNOT);
        due("to one that FROM has not", x.shift(0, 1, 2), 200);
        due("held", x.held(0, 2), 200);
        due("held no more", x.held(0, 1), 0);
        due("FREE again", x.ofGuarantor(1, 3), 500);
        due("sums stay", x.sums(0, 0), 1200);
        due("sums stay", x.sums(0, 1), 0);
        x.arrive(0, 50, false, 0);
        due("released of that first", x.held(0, 2), 100);
        due("the order's stays", x.held(0, 0), 1000);
        x.arrive(0, 0, true, 0);
        due("DUE of that last", x.ofGuarantor(2, 2), 100);
        due("DUE of the first", x.ofGuarantor(0, 2), 1000);
        x = small();
        x.guarantor(300);
        x.guarantor(300);
        x.order(0, 0, NONE, NONE);
        x.load(0, 1, 0, 100, 5, 0);
        x.shift(0, 0, 3);
        x.order(0, 2, NONE, NONE);
        due("just as much FREE", x.limit(2, 200), 300);
        due("shifted", x.shift(0, 3, 2), 200);
        x.limit(2, 400);
        x.rate(0, 5, 3);
        due("more is held by the order", x.held(0, 2), 300);
        x.shift(0, 2, 1);
        x.rate(0, 5, 4);
        x.order(0, NONE, NONE, NONE);
        due("held", x.held(0, 2), 100);
        x.arrive(0, 20, false, 0);
        due("the greatest number first", x.held(0, 2), 20);
        due("the least stays", x.held(0, 1), 300);
        x.arrive(0, 0, true, 0);
        due("DUE is of the least first", x.ofGuarantor(1, 2), 160);
        due("none of the greater", x.ofGuarantor(2, 2), 0);
    }

    private static void extensions() {
        part = "18";
        BondStores x = small();
        x.load(0, 1, 0, 100, 5, 0);
        x.load(1, 0, 0, 900, 5, 0);
        due("nought", x.extend(0, 0), BAD);
        due("above", x.extend(0, 91), BAD);
        due("number ahead of load", x.extend(9, 0), BAD);
        due("no load", x.extend(2, 1), MISSING);
        due("it waits", x.extend(1, 1), CANNOT);
        due("its LATEST", x.extend(0, 85), 90);
        due("DAYS", x.ofLoad(0, 5), 90);
        due("to 180", x.extend(0, 90), 180);
        due("above 180", x.extend(0, 1), CANNOT);
        x = small();
        x.rate(0, 8, 20);
        x.load(0, 1, 0, 100, 5, 0);
        due("can't be held", x.extend(0, 3), CANNOT);
        due("as it was", x.ofLoad(0, 5), 5);
        due("short of the rate", x.extend(0, 2), 7);
        x.limit(0, 1500);
        due("held anew", x.extend(0, 1), 8);
        due("held", x.ofLoad(0, 9), 2000);
        due("of the second", x.held(0, 1), 500);
        due("held in all", x.sums(0, 0), 2000);
        x = small();
        x.load(0, 1, 0, 100, 5, 0);
        x.days(8);
        due("late, within GRACE", x.extend(0, 1), 6);
        x.terms(0, 1);
        due("LATEST and GRACE below DAY", x.extend(0, 5), CANNOT);
        x.terms(0, 2);
        due("not below DAY", x.extend(0, 5), 11);
    }

    private static void diversions() {
        part = "19";
        BondStores x = small();
        x.load(0, 1, 0, 100, 5, 0);
        x.load(1, 0, 0, 900, 5, 0);
        due("no load", x.divert(2, 2), MISSING);
        due("no store", x.divert(0, 3), MISSING);
        due("it waits", x.divert(1, 2), CANNOT);
        due("to FROM", x.divert(0, 0), CANNOT);
        due("to its TO", x.divert(0, 1), CANNOT);
        due("diverted", x.divert(0, 2), 1);
        due("TO", x.ofLoad(0, 2), 2);
        x.arrive(0, 40, false, 0);
        due("it comes there", x.ofStore(2, 0), 40);
        due("back", x.divert(0, 1), 2);
    }

    private static void daysAndLosses() {
        part = "20";
        BondStores x = small();
        x.allows(0, 0, 10);
        x.allows(0, 1, 999);
        x.terms(0, 2);
        x.rate(0, 3, 4);
        x.rate(0, 5, 3);
        x.rate(0, 6, 99);
        x.load(0, 1, 0, 200, 5, 0);
        x.load(0, 1, 0, 100, 4, 0);
        due("nought", x.days(0), BAD);
        due("above", x.days(91), BAD);
        due("held", x.count(9), 1200);
        x.arrive(0, 20, false, 0);
        due("to the last of GRACE", x.days(6), 0);
        due("one lost", x.days(1), 1);
        due("it is lost", x.ofLoad(1, 0), 3);
        due("SHORT", x.ofLoad(1, 11), 100);
        due("ALLOWED for DAYS: none by rounding", x.ofLoad(1, 12), 0);
        due("DUTY at LATEST", x.ofLoad(1, 10), 400);
        due("the other", x.days(1), 1);
        due("ALLOWED of its QUANTITY", x.ofLoad(0, 12), 1);
        due("SHORT is its REST", x.ofLoad(0, 11), 180);
        due("DUTY at LATEST, not the greatest", x.ofLoad(0, 10), 179 * 3);
        due("all else released", x.sums(0, 1), 800 - 179 * 3);
        due("held of all", x.count(9), 0);
        due("lost ones", x.count(7), 2);
        x = new BondStores();
        for (int i = 0; i < 111; i++) {
            x.days(90);
        }
        due("too far", x.days(10), CANNOT);
        due("to the last", x.days(9), 0);
        due("DAY", x.count(0), 9999);
        due("no more", x.days(1), CANNOT);
        due("no rate any more", x.rate(0, 9999, 1), CANNOT);
        x = small();
        x.terms(0, 0);
        x.limit(0, 0);
        x.load(0, 1, 0, 250, 2, 0);
        x.load(0, 1, 0, 1, 3, 0);
        due("in turn behind each day", x.days(9), 1);
        due("duty stays due, none FREE", x.ofLoad(1, 0), 0);
        x.undo();
        x.allows(0, 0, 99);
        x.allows(0, 1, 999);
        due("what is allowed frees: the next goes, and is lost, too", x.days(9), 2);
        due("it went on day 3", x.ofLoad(1, 7), 3);
    }

    private static void undoing() {
        part = "21";
        BondStores x = new BondStores();
        due("none", x.undo(), CANNOT);
        due("told", x.status(), CANNOT);
        x.guarantor(1000);
        undone(x, 0);
        x.guarantor(1000);
        x.guarantor(1000);
        x.store(0, NONE, NONE);
        undone(x, 3);
        x.store(0, NONE, NONE);
        x.store(NONE, NONE, NONE);
        x.store(NONE, NONE, NONE);
        x.limit(0, 900);
        undone(x, 1);
        x.order(0, 1, NONE, NONE);
        undone(x, 4);
        x.stock(0, 0, 500);
        undone(x, 5);
        x.stock(0, 0, 500);
        x.allows(0, 1, 5);
        undone(x, 6);
        x.rate(0, 0, 5);
        undone(x, 7);
        x.rate(0, 0, 5);
        x.terms(1, 0);
        undone(x, 8);
        x.use(0, 0, 20);
        x.pay(0, 20);
        undone(x, 2);
        undone(x, 14);
        x.load(0, 1, 0, 300, 4, 0);
        x.withdraw(0);
        undone(x, 10);
        undone(x, 9);
        x.load(0, 1, 0, 100, 4, 0);
        x.arrive(0, 10, false, 0);
        undone(x, 11);
        x.match(1, 0, 100);
        undone(x, 12);
        x.split(0, 10, 2);
        undone(x, 13);
        x.days(5);
        undone(x, 15);
        x.shift(0, 0, 1);
        undone(x, 16);
        x.extend(0, 9);
        undone(x, 17);
        x.divert(0, 2);
        undone(x, 18);
        for (int i = 1; i <= 9; i++) {
            x.limit(0, 1000 + i);
            x.limit(0, -1);
        }
        due("8 are kept", x.count(12), 8);
        for (int i = 8; i >= 1; i--) {
            due("limit", x.undo(), 1);
            due("LIMIT", x.ofGuarantor(0, 0), 1000 + i);
        }
        due("none left", x.undo(), CANNOT);
        due("refusals stay told", x.count(15), 9);
        x.limit(0, 5000);
        x.limit(0, 4000);
        x.undo();
        x.stock(0, 0, 1);
        due("the latest", x.undo(), 5);
        due("then the one ahead", x.undo(), 1);
    }

    /** The latest act is undone: told by its number, and every reading is as it was ahead of it. */
    private static void undone(BondStores x, int act) {
        int kept = x.count(12);
        due("undo", x.undo(), act);
        due("one less", x.count(12), kept - 1);
        due("status", x.status(), 0);
        switch (act) {
            case 0: due("guarantors", x.count(1), 0); break;
            case 1: due("limit", x.ofGuarantor(0, 0), 1000); break;
            case 2: due("due", x.ofGuarantor(0, 2), 100); due("paid", x.total(0, 1), 0); break;
            case 3: due("stores", x.count(2), 0); break;
            case 4: due("order", x.ofStore(0, 6), 0); break;
            case 5: due("stock", x.ofStore(0, 0), 0); break;
            case 6: due("cap", x.allowance(0, 9999, 999), 0); break;
            case 7: due("rate", x.rateOn(0, 0), 0); break;
            case 8: due("strict", x.count(14), 1); break;
            case 9: due("loads", x.count(3), 0); due("stock", x.ofStore(0, 0), 500); break;
            case 10: due("state", x.ofLoad(0, 0), 0); due("stock", x.ofStore(0, 0), 200); break;
            case 14: due("due", x.total(NONE, 0), 0); due("stock", x.ofStore(0, 0), 500); break;
            default:
                due("state", x.ofLoad(0, 0), 1);
                due("to", x.ofLoad(0, 2), 1);
                due("days", x.ofLoad(0, 5), 4);
                due("quantity", x.ofLoad(0, 4), 100);
                due("came", x.ofLoad(0, 8), 0);
                due("held", x.held(0, 0), 500);
                due("held of the other", x.held(0, 1), 0);
                due("sums", x.sums(0, 1), 0);
                due("loads", x.count(3), 1);
                due("day", x.count(0), 0);
                due("stock there", x.ofStore(1, 0), 0);
                due("FREE", x.ofStore(0, 5), 500);
        }
    }

    private static void images() {
        part = "22, 23";
        BondStores x = small();
        due("no image", x.image(2), BAD);
        due("no image below", x.image(-1), BAD);
        due("no image", x.back(2), BAD);
        due("not kept", x.back(0), CANNOT);
        x.days(3);
        due("kept", x.image(0), 3);
        due("it can't be undone", x.count(12), 8);
        x.load(0, 1, 0, 100, 5, 0);
        x.days(2);
        due("kept", x.image(1), 5);
        x.arrive(0, 100, false, 0);
        due("back to the later", x.back(1), 5);
        due("it goes", x.ofLoad(0, 0), 1);
        due("held", x.count(9), 200);
        due("nothing to undo", x.undo(), CANNOT);
        due("back to the first", x.back(0), 3);
        due("no loads", x.count(3), 0);
        due("stock", x.ofStore(0, 0), 5000);
        due("refusals stay told", x.count(15), 3);
        due("refusals stay told", x.count(17), 2);
        x.days(1);
        due("an act behind it can be undone", x.count(12), 1);
        due("an image may be gone back to twice", x.back(0), 3);
        due("an image outlives an undo", x.undo(), CANNOT);
        x.limit(0, 70);
        x.image(1);
        due("undone", x.undo(), 1);
        x.back(1);
        due("the image has it", x.ofGuarantor(0, 0), 70);
        due("an image can be kept anew", x.image(0), 3);
        due("a place is not filled by what was undone", freshPlace(), 0);
    }

    private static long freshPlace() {
        BondStores x = small();
        x.load(0, 1, 0, 100, 5, 7);
        x.arrive(0, 50, true, 0);
        x.undo();
        x.undo();
        x.load(0, 1, 0, 600, 5, 7);
        x.withdraw(0);
        due("nothing came", x.ofLoad(0, 8), 0);
        due("held in all", x.sums(0, 0), 1200);
        return x.ofLoad(0, 10) + x.ofLoad(0, 11) + x.sums(0, 1);
    }

    private static void readings() {
        part = "24 .. 29";
        BondStores x = small();
        x.load(0, 1, 0, 300, 5, 0);
        x.use(1, 0, 20);
        int[] first = {1000, 600, 0, 400, NONE};
        int[] second = {500, 0, 40, 460, NONE};
        for (int what = 0; what <= 4; what++) {
            due("ofGuarantor(0)", x.ofGuarantor(0, what), first[what]);
            due("ofGuarantor(1)", x.ofGuarantor(1, what), second[what]);
            due("ofGuarantor(2)", x.ofGuarantor(2, what), NONE);
        }
        due("ofGuarantor", x.ofGuarantor(0, -1), NONE);
        due("total of one", x.total(1, 0), 40);
        due("total of another", x.total(0, 0), 0);
        due("total of all", x.total(NONE, 0), 40);
        due("total paid", x.total(NONE, 1), 0);
        due("total of none", x.total(2, 0), NONE);
        due("total below", x.total(-2, 0), NONE);
        due("total what", x.total(0, 2), NONE);
        due("total what", x.total(0, -1), NONE);
        int[] store = {4700, 0, 0, 0, 0, 860, 0, 1, NONE, NONE};
        for (int what = 0; what <= 9; what++) {
            due("ofStore(0, " + what + ")", x.ofStore(0, what), store[what]);
        }
        due("ofStore below", x.ofStore(0, -1), NONE);
        due("ofStore none", x.ofStore(3, 0), NONE);
        due("ofStore far", x.ofStore(0, Integer.MAX_VALUE), NONE);
        due("ofLoad what", x.ofLoad(0, 15), NONE);
        due("ofLoad what", x.ofLoad(0, -1), NONE);
        due("ofLoad none", x.ofLoad(1, 0), NONE);
        due("sums what", x.sums(0, 2), NONE);
        due("sums none", x.sums(1, 0), NONE);
        due("held", x.held(0, 0), 600);
        due("held of none", x.held(0, 2), NONE);
        due("held of no load", x.held(1, 0), NONE);
        due("sums beyond an int", manyHolds(), 9989001L * 250);
    }

    private static long manyHolds() {
        BondStores x = new BondStores();
        x.guarantor(9999999);
        x.store(0, NONE, NONE);
        x.store(0, NONE, NONE);
        x.stock(0, 0, 9999);
        x.load(0, 1, 0, 9999, 90, 0);
        for (int i = 0; i < 250; i++) {
            x.rate(0, 0, 999);
            x.rate(0, 0, 0);
        }
        due("released as much", x.sums(0, 1), 9989001L * 250);
        return x.sums(0, 0);
    }

    private static void listings() {
        part = "32";
        BondStores x = small();
        x.load(0, 1, 0, 10, 9, 5);
        x.load(0, 1, 0, 10, 3, 5);
        x.load(0, 1, 0, 10, 3, 2);
        x.load(1, 0, 0, 900, 9, 5);
        x.load(1, 0, 0, 900, 9, 6);
        x.load(1, 0, 0, 900, 9, 5);
        int[][] want = {{3, 5, 4, NONE}, {1, 2, 0, NONE}, {NONE, NONE, NONE, NONE}};
        for (int what = 0; what < 3; what++) {
            for (int i = 0; i < 4; i++) {
                due("listed(" + what + ", " + i + ")", x.listed(what, i), want[what][i]);
            }
        }
        x.days(3);
        due("not late on LATEST", x.listed(2, 0), NONE);
        x.days(1);
        due("late", x.listed(2, 0), 1);
        due("late", x.listed(2, 1), 2);
        due("no more", x.listed(2, 2), NONE);
        due("below", x.listed(1, -1), NONE);
        due("what", x.listed(3, 0), NONE);
        due("what", x.listed(-1, 0), NONE);
        due("far", x.listed(0, Integer.MAX_VALUE), NONE);
    }

    private static void rooms() {
        part = "33";
        BondStores x = small();
        x.rate(0, 6, 7);
        due("days short of the rate", x.room(0, 0, 5), 750);
        due("days with the rate", x.room(0, 0, 6), 214);
        due("no rate", x.room(0, 1, 6), 9999);
        due("no guarantor", x.room(2, 0, 6), 0);
        due("no guarantor, no rate", x.room(2, 1, 6), 9999);
        x.limit(0, 9999999);
        due("most", x.room(0, 0, 1), 9999);
        due("no store", x.room(3, 0, 1), NONE);
        due("no kind", x.room(0, 5, 1), NONE);
        due("no days", x.room(0, 0, 0), NONE);
        due("too many days", x.room(0, 0, 91), NONE);
        due("most days", x.room(1, 0, 90), 71);
    }

    private static void cheapestDays() {
        part = "34";
        BondStores x = new BondStores();
        due("no rates: now", x.cheapest(0, 180, 0), 0);
        due("no rates", x.cheapest(0, 180, 1), 0);
        x.rate(0, 0, 9);
        x.rate(0, 10, 5);
        x.rate(0, 14, 3);
        x.rate(0, 17, 8);
        x.rate(0, 399, 2);
        x.rate(0, 400, 1);
        due("three days of 3", x.cheapest(0, 2, 0), 399);
        due("by them", x.cheapest(0, 2, 1), 2);
        x.rate(0, 399, 8);
        due("from 400 on is too late", x.cheapest(0, 2, 0), 14);
        due("3 days behind", x.cheapest(0, 3, 1), 5);
        due("first of like ones", x.cheapest(0, 3, 0), 10);
        due("6 days behind", x.cheapest(0, 6, 0), 10);
        due("7 days behind", x.cheapest(0, 7, 0), 10);
        due("7 days behind", x.cheapest(0, 7, 1), 8);
        x.days(12);
        due("400 is in reach", x.cheapest(0, 2, 0), 400);
        x.rate(0, 400, 8);
        due("now is the first", x.cheapest(0, 4, 0), 12);
        due("now is the first", x.cheapest(0, 4, 1), 5);
        due("no kind", x.cheapest(5, 1, 0), NONE);
        due("no days", x.cheapest(0, 0, 0), NONE);
        due("too many days", x.cheapest(0, 181, 0), NONE);
        due("what", x.cheapest(0, 1, 2), NONE);
        due("what", x.cheapest(0, 1, -1), NONE);
    }

    private static void behindAGuarantor() {
        part = "35";
        BondStores x = small();
        for (int what = 0; what <= 4; what++) {
            due("none", x.behind(0, what), new int[] {0, NONE, NONE, 0, NONE}[what]);
        }
        x.load(0, 1, 0, 100, 5, 0);
        x.load(0, 1, 0, 200, 9, 0);
        x.load(0, 1, 0, 200, 3, 0);
        x.load(0, 1, 0, 10, 20, 0);
        due("held of both", x.held(2, 0), 400);
        due("the last is held of the second", x.held(3, 1), 20);
        due("how many", x.behind(0, 0), 3);
        due("most, the first", x.behind(0, 1), 1);
        due("latest", x.behind(0, 2), 9);
        due("none late", x.behind(0, 3), 0);
        x.days(5);
        due("one late", x.behind(0, 3), 400);
        x.days(1);
        due("two late", x.behind(0, 3), 600);
        due("none of the second late", x.behind(1, 3), 0);
        due("what", x.behind(0, -1), NONE);
        due("no guarantor", x.behind(2, 0), NONE);
        due("no guarantor", x.behind(NONE, 0), NONE);
    }

    private static void freedAndLacks() {
        part = "36, 37";
        BondStores x = small();
        due("none waits", x.lacks(0), NONE);
        due("none would go", x.freed(0, 9999999), 0);
        x.load(1, 0, 0, 300, 5, 1);
        x.load(1, 0, 0, 100, 5, 2);
        x.load(0, 1, 0, 800, 5, 3);
        due("lacks", x.lacks(1), 100);
        due("by no other", x.lacks(0), NONE);
        due("no guarantor", x.lacks(2), NONE);
        due("no guarantor", x.lacks(NONE), NONE);
        due("too little", x.freed(1, 99), 0);
        due("one", x.freed(1, 100), 1);
        due("two", x.freed(1, 300), 2);
        due("one short", x.freed(1, 899), 2);
        due("three", x.freed(1, 900), 3);
        due("strict: none", x.freed(0, 9999999), 0);
        due("most", x.freed(1, 9999999), 3);
        due("nought", x.freed(1, 0), NONE);
        due("above", x.freed(1, 10000000), NONE);
        due("no guarantor", x.freed(2, 1), NONE);
        due("on paper alone", x.ofGuarantor(1, 0), 500);
        due("all wait yet", x.count(4), 3);
        x.limit(1, 9999999);
        x.undo();
        x.terms(1, 0);
        due("not strict: the second goes", x.ofLoad(1, 0), 1);
        due("not strict: another may", x.freed(0, 300), 1);
        due("first that waits", x.lacks(1), 300);
        due("no status of these", x.status(), 0);
    }

    private static void bestFits() {
        part = "38";
        BondStores x = small();
        x.terms(1, 0);
        x.limit(1, 0);
        int[] quantities = {30, 20, 50, 10, 40, 1, 1, 1, 1, 1, 5};
        for (int i = 0; i < quantities.length; i++) {
            x.load(1, 0, 0, quantities[i], 5, i == 3 ? 0 : 4);
        }
        x.load(0, 1, 0, 4000, 5, 0);
        due("nothing FREE", x.best(1, 0), 0);
        due("nothing FREE", x.best(1, 1), 0);
        x.terms(1, 1);
        x.limit(1, 19);
        due("bits", x.best(1, 0), 0b1111100000);
        due("together", x.best(1, 1), 10);
        due("limit back", x.limit(1, 0), 19);
        BondStores y = small();
        y.load(1, 0, 0, 400, 5, 0);
        y.load(1, 0, 0, 100, 5, 1);
        y.load(1, 0, 0, 150, 5, 1);
        y.load(1, 0, 0, 150, 5, 2);
        due("most that fit, the least as bits", y.best(1, 0), 0b110);
        due("most that fit", y.best(1, 1), 500);
        due("FROM with another guarantor, too", y.best(0, 0), 0);
        due("no guarantor", y.best(2, 0), NONE);
        due("what", y.best(1, 2), NONE);
        due("what", y.best(1, -1), NONE);
        y.order(1, 1, 0, NONE);
        due("not alone then", y.best(1, 1), 0);
        y = small();
        y.load(1, 0, 0, 300, 5, 1);
        y.load(1, 0, 0, 150, 5, 2);
        due("the second alone", y.best(1, 0), 0b10);
        y.rate(0, 2, 3);
        due("by NEEDS of now", y.best(1, 1), 450);
        y = small();
        y.rate(0, 1, 999);
        y.load(1, 0, 0, 1, 90, 2);
        y.load(1, 0, 0, 2, 90, 1);
        y.limit(1, 998);
        due("none fits", y.best(1, 0), 0);
        y.load(2, 0, 0, 1, 1, 0);
        y.stock(2, 0, 5);
        y.load(2, 0, 0, 5, 5, 0);
        y.limit(1, 2998);
        due("both fit behind one that can't go", y.best(1, 0), 0b11);
        due("both together", y.best(1, 1), 2997);
    }

    private static void explanations() {
        part = "39";
        BondStores x = small();
        x.limit(0, 9999999);
        int[] quantities = {7, 5, 2, 3, 10, 5};
        for (int i = 0; i < quantities.length; i++) {
            x.load(0, 1, 0, quantities[i], 20 - i, 0);
        }
        due("one", x.explains(1, 0, 10, 0), 0b000010);
        due("how many", x.explains(1, 0, 10, 1), 1);
        due("two, the least as bits", x.explains(1, 0, 15, 0), 0b000011);
        due("two", x.explains(1, 0, 12, 1), 2);
        due("least as bits of like many", x.explains(1, 0, 12, 0), 0b001010);
        due("all", x.explains(1, 0, 32, 0), 0b111111);
        due("too much", x.explains(1, 0, 33, 0), NONE);
        due("none", x.explains(1, 0, 1, 1), NONE);
        due("another store", x.explains(2, 0, 10, 0), NONE);
        due("another kind", x.explains(1, 1, 10, 0), NONE);
        due("nought", x.explains(1, 0, 0, 0), NONE);
        due("above", x.explains(1, 0, 100000, 0), NONE);
        due("no store", x.explains(3, 0, 10, 0), NONE);
        due("no kind", x.explains(1, 5, 10, 0), NONE);
        due("what", x.explains(1, 0, 10, 2), NONE);
        x.arrive(4, 6, false, 0);
        due("by RESTS", x.explains(1, 0, 4, 0), 0b000010);
        for (int i = 0; i < 6; i++) {
            x.load(0, 1, 0, 100, 30, 0);
        }
        x.load(0, 1, 0, 1000, 31, 0);
        due("the twelfth", x.explains(1, 0, 626, 1), 12);
        due("not the thirteenth", x.explains(1, 0, 1000, 0), NONE);
    }

    private static void whatDaysWillBring() {
        part = "40";
        BondStores x = small();
        x.terms(0, 0);
        x.limit(0, 0);
        x.load(0, 1, 0, 200, 2, 0);
        x.load(0, 1, 0, 100, 3, 0);
        due("held now", x.would(2, 3), 400);
        due("one waits", x.would(2, 2), 1);
        due("lost", x.would(3, 1), 1);
        due("due", x.would(3, 0), 400);
        due("held", x.would(3, 3), 0);
        due("still waits", x.would(3, 2), 1);
        x.allows(0, 0, 99);
        x.allows(0, 1, 999);
        due("not enough yet", x.would(3, 2), 1);
        due("due less what is allowed", x.would(3, 0), 2 * (200 - 3));
        x.limit(1, 600);
        due("the next would go", x.would(3, 2), 0);
        due("and be lost, too", x.would(7, 1), 2);
        due("on paper alone", x.count(0), 0);
        due("nothing due", x.count(10), 0);
        due("nought", x.would(0, 0), NONE);
        due("above", x.would(91, 0), NONE);
        due("what", x.would(1, 4), NONE);
        due("what", x.would(1, -1), NONE);
        for (int i = 0; i < 111; i++) {
            x.days(90);
        }
        due("to the last day", x.would(9, 0), x.count(10));
        due("beyond", x.would(10, 0), NONE);
    }

    private static void dutiesIf() {
        part = "41";
        BondStores x = small();
        x.allows(0, 0, 50);
        x.allows(0, 1, 999);
        x.rate(0, 2, 3);
        x.days(1);
        x.load(0, 1, 0, 400, 3, 0);
        x.load(0, 1, 0, 900, 3, 0);
        x.days(1);
        x.arrive(0, 100, false, 0);
        due("all came", x.dutyIf(0, 300, 1), 0);
        due("some short", x.dutyIf(0, 290, 1), (10 - 2) * 2);
        due("another day", x.dutyIf(0, 290, 2), (10 - 2) * 3);
        due("nothing comes", x.dutyIf(0, 0, 2), (300 - 2) * 3);
        due("more than REST", x.dutyIf(0, 301, 2), NONE);
        due("less than nothing", x.dutyIf(0, -1, 2), NONE);
        due("ahead of BEGUN", x.dutyIf(0, 0, 0), NONE);
        due("behind now", x.dutyIf(0, 0, 3), NONE);
        due("it waits", x.dutyIf(1, 0, 2), NONE);
        due("no load", x.dutyIf(2, 0, 2), NONE);
        x.days(8);
        due("on LATEST", x.dutyIf(0, 200, 4), (100 - 6) * 3);
        due("behind LATEST", x.dutyIf(0, 200, 5), NONE);
        due("on paper alone", x.count(10), 0);
    }

    private static void daysOfRates() {
        part = "42";
        BondStores x = small();
        x.rate(0, 2, 4);
        x.rate(0, 4, 1);
        x.rate(0, 5, 4);
        x.rate(0, 6, 1);
        x.rate(0, 9, 99);
        x.days(1);
        x.load(0, 1, 0, 10, 7, 0);
        x.load(1, 0, 0, 900, 7, 0);
        due("only one day", x.dayOf(0, 1), 1);
        x.days(1);
        due("greatest", x.dayOf(0, 1), 2);
        due("least", x.dayOf(0, 0), 1);
        x.days(8);
        due("least, the first", x.dayOf(0, 0), 4);
        due("greatest, not behind LATEST", x.dayOf(0, 1), 2);
        due("it waits", x.dayOf(1, 0), NONE);
        due("no load", x.dayOf(2, 0), NONE);
        due("what", x.dayOf(0, 2), NONE);
        due("what", x.dayOf(0, -1), NONE);
        x.arrive(0, 10, false, 0);
        due("ended", x.dayOf(0, 0), NONE);
    }

    private static void countsAndStatus() {
        part = "43, 44";
        BondStores x = small();
        x.load(0, 1, 0, 100, 5, 0);
        x.load(0, 1, 0, 50, 5, 0);
        x.arrive(1, 40, true, 0);
        x.load(1, 0, 0, 900, 5, 0);
        x.load(1, 0, 0, 800, 5, 0);
        x.withdraw(3);
        x.guarantor(-1);
        due("status", x.status(), BAD);
        x.withdraw(77);
        due("status", x.status(), MISSING);
        x.count(0);
        x.ofLoad(99, 0);
        due("readings change no status", x.status(), MISSING);
        x.withdraw(0);
        due("status", x.status(), CANNOT);
        x.pay(0, 20);
        due("status of one that was not refused", x.status(), 0);
        x.store(NONE, NONE, NONE);
        x.store(NONE, NONE, NONE);
        x.store(NONE, NONE, NONE);
        x.store(NONE, NONE, NONE);
        due("status", x.status(), FULL);
        x.image(7);
        due("status of image", x.status(), BAD);
        x.image(0);
        due("status of image", x.status(), 0);
        x.back(1);
        due("status of back", x.status(), CANNOT);
        int[] want = {0, 2, 6, 4, 1, 1, 1, 0, 1, 200, 0, 10000 - 100 - 50 + 40 - 900, 8, 30, 1, 2, 1, 2, 1};
        for (int what = 0; what < want.length; what++) {
            due("count(" + what + ")", x.count(what), want[what]);
        }
        due("count(-1)", x.count(-1), NONE);
        due("count(19)", x.count(19), NONE);
        x.undo();
        due("status of undo", x.status(), 0);
        x.back(0);
        due("status of back", x.status(), 0);
    }

    private static void leastNumbers() {
        part = "least numbers";
        BondStores x = small();
        due("ALLOWS 0", x.allows(0, 0, 0), 0);
        due("CAP 0", x.allows(0, 1, 0), 0);
        x.allows(0, 0, 99);
        x.allows(0, 1, 999);
        due("by ten thousand", x.allowance(0, 9999, 99), 998);
        x.rate(0, 0, 1);
        due("room at RATE 1", x.room(1, 0, 1), 500);
        due("cheapest of 1 day", x.cheapest(0, 1, 1), 1);
        x.load(1, 0, 0, 1, 1, 0);
        due("1 is HELD", x.behind(1, 0), 1);
        due("HELD grows by 1", x.rate(0, 1, 2), 1);
        due("HELD", x.ofLoad(0, 9), 2);
        x.load(1, 0, 0, 1, 1, 0);
        due("no day of these is now", x.arrive(0, 1, true, 9999), CANNOT);
        due("a day that is not asked", x.arrive(0, 2, false, 9999), CANNOT);
        due("a day above that is not asked", x.arrive(0, 2, false, 10000), CANNOT);
        due("2 of two", x.match(0, 0, 2), 2);
        x.undo();
        due("1 of one", x.explains(0, 0, 1, 1), 1);
        due("the first", x.explains(0, 0, 1, 0), 1);
        due("no such store, kind", x.explains(-1, 0, 1, 1), NONE);
        due("no such store, kind", x.explains(0, -1, 1, 1), NONE);
        due("no such quantity", x.explains(0, 0, -1, 1), NONE);
        due("1 day", x.would(1, 3), 4);
        x.limit(1, 5);
        x.load(1, 0, 0, 1, 1, 0);
        due("1 is missing", x.lacks(1), 1);
        due("1 more", x.freed(1, 1), 1);
        x = small();
        x.rate(0, 0, 1);
        x.limit(1, 1);
        x.load(1, 0, 0, 2, 5, 0);
        x.load(1, 0, 0, 1, 5, 1);
        due("1 fits", x.best(1, 0), 0b10);
        due("1 fits", x.best(1, 1), 1);
        x.order(1, 1, 0, NONE);
        x.order(1, 1, NONE, NONE);
        x.use(0, 0, 7);
        due("DUE of the first of two", x.count(10), 7);
        due("shift to itself", x.shift(0, 1, 1), CANNOT);
        due("LIMIT above what is FREE", x.limit(1, 8), 1);
    }

    /** What is made anew where an undone one stood has nothing of that one. */
    private static void freshPlaces() {
        part = "new ones behind undo and back";
        BondStores x = new BondStores();
        x.image(0);
        fillPlaces(x);
        x.back(0);
        x.guarantor(40);
        due("HELD", x.ofGuarantor(0, 1), 0);
        due("DUE", x.ofGuarantor(0, 2), 0);
        due("DUE in all", x.total(0, 0), 0);
        due("paid in all", x.total(0, 1), 0);
        x.store(0, NONE, NONE);
        x.store(NONE, NONE, NONE);
        for (int kind = 0; kind < 5; kind++) {
            due("STOCK", x.ofStore(0, kind), 0);
        }
        x.stock(0, 0, 10);
        x.rate(0, 0, 9);
        x.load(0, 1, 0, 5, 4, 3);
        int[] want = {0, 0, 1, 0, 5, 4, 3, NONE, 0, 0, 0, 0, 0, 45, NONE};
        for (int what = 0; what < want.length; what++) {
            due("ofLoad(0, " + what + ")", x.ofLoad(0, what), want[what]);
        }
        due("HELD in all", x.sums(0, 0), 0);
        due("RELEASED in all", x.sums(0, 1), 0);
        x = small();
        x.load(0, 1, 0, 100, 5, 0);
        x.undo();
        x.load(2, 1, 0, 1, 5, 0);
        x.stock(2, 0, 30);
        x.load(2, 1, 0, 30, 5, 0);
        due("it waits", x.ofLoad(0, 0), 0);
        due("HELD", x.ofLoad(0, 9), 0);
        due("HELD", x.held(0, 0), 0);
    }

    private static void fillPlaces(BondStores x) {
        x.guarantor(9000);
        x.store(0, NONE, NONE);
        x.store(0, NONE, NONE);
        x.store(0, NONE, NONE);
        for (int kind = 0; kind < 5; kind++) {
            x.stock(0, kind, 500);
        }
        x.rate(0, 0, 10);
        x.allows(0, 0, 99);
        x.allows(0, 1, 999);
        x.load(0, 1, 0, 300, 9, 5);
        x.days(3);
        x.arrive(0, 100, true, 1);
        x.pay(0, 7);
        x.load(0, 1, 0, 100, 9, 5);
        x.split(1, 20, 2);
    }

    private static void fourGuarantors() {
        part = "four guarantors";
        BondStores x = new BondStores();
        for (int i = 0; i < 4; i++) {
            x.guarantor(1000);
        }
        x.store(1, NONE, NONE);
        x.store(1, 2, 3);
        x.store(NONE, NONE, NONE);
        x.stock(0, 0, 900);
        x.rate(0, 0, 1);
        x.load(0, 1, 0, 300, 5, 0);
        x.shift(0, 1, 3);
        due("HELD of the last number", x.ofGuarantor(3, 1), 300);
        due("FREE of it", x.ofGuarantor(3, 3), 700);
        due("same one, enough FREE", x.shift(0, 3, 3), CANNOT);
        x.rate(0, 5, 2);
        due("more of the order", x.held(0, 1), 300);
        x.split(0, 100, 2);
        due("the last number is handed over first", x.held(1, 3), 200);
        due("the order's is kept", x.held(0, 1), 300);
        x.arrive(0, 40, false, 0);
        due("the last number is released first", x.held(0, 3), 20);
        x.shift(0, 1, 0);
        x.arrive(0, 20, false, 0);
        due("number 3 ahead of number 0", x.held(0, 3), 0);
        due("then number 0", x.held(0, 0), 280);
        x.order(0, 2, NONE, NONE);
        x.arrive(0, 0, true, 0);
        due("DUE of one that FROM has not", x.ofGuarantor(0, 2), 140);
        due("all released", x.ofGuarantor(0, 1), 0);
    }

    private static void ratesWithoutAFirst() {
        part = "rates told from a later day";
        BondStores x = small();
        x.rate(1, 4, 6);
        x.stock(0, 1, 100);
        x.load(0, 1, 1, 10, 9, 0);
        due("none yet", x.rateOn(1, 3), 0);
        due("NEED of days ahead", x.ofLoad(0, 13), 60);
        x.days(6);
        due("greatest", x.dayOf(0, 1), 4);
        due("least", x.dayOf(0, 0), 0);
        due("late is the first of all", x.listed(2, 0), NONE);
        x.days(4);
        due("late is the first of all", x.listed(2, 0), 0);
        x.rate(2, 30, 6);
        x.rate(2, 60, 0);
        due("now, ahead of any", x.cheapest(2, 9, 0), 10);
        x.rate(3, 11, 6);
        x.days(1);
        x.rate(3, 40, 2);
        due("a told day", x.cheapest(3, 90, 0), 40);
    }

    private static void fullRates() {
        part = "12 rates";
        BondStores x = small();
        for (int i = 1; i <= 11; i++) {
            x.rate(0, 10 * i, i % 2);
        }
        due("full", x.rate(0, 200, 1), FULL);
        due("the first in place", x.rate(0, 0, 1), 2);
        due("the last in place", x.rate(0, 110, 0), 1);
        x.load(1, 0, 0, 400, 90, 0);
        x.days(60);
        x.extend(0, 90);
        due("not to be held, behind all the others", x.rate(0, 111, 2), CANNOT);
        due("room alone", x.rate(0, 181, 2), FULL);
        x.image(0);
        x.rate(0, 110, 1);
        x.rate(0, 100, 1);
        x.back(0);
        due("the last again", x.rateOn(0, 110), 0);
        x = small();
        for (int i = 1; i <= 11; i++) {
            x.rate(0, i, i);
        }
        x.undo();
        due("one less by undo", x.rate(0, 99, 5), 10);
        due("full then", x.rate(0, 98, 5), FULL);
        due("11 was undone", x.rateOn(0, 11), 10);
    }

    /** Every call that looks at all LOADS, with all places taken. */
    private static void fortyLoads() {
        part = "40 loads, 4 guarantors, 6 stores";
        BondStores x = new BondStores();
        for (int i = 0; i < 4; i++) {
            x.guarantor(i == 3 ? 9 : 1000);
        }
        x.store(0, 1, 2);
        x.store(0, 1, 2);
        for (int i = 0; i < 4; i++) {
            x.store(3, NONE, NONE);
        }
        x.stock(0, 0, 1000);
        x.stock(5, 0, 1000);
        x.rate(0, 0, 1);
        for (int i = 0; i < 20; i++) {
            x.load(0, 1, 0, 1 + i, 40 - i, 0);
        }
        for (int i = 20; i < 40; i++) {
            x.load(5, 1, 0, 10 + i, 9, 9 - i % 10);
        }
        due("half of them go", x.count(5), 20);
        due("half of them wait", x.count(4), 20);
        due("last that waits", x.listed(0, 19), 30);
        due("last that goes", x.listed(1, 19), 0);
        due("none late", x.listed(2, 0), NONE);
        due("how many are held for", x.behind(0, 0), 20);
        due("held of all", x.count(9), 210);
        due("explained by the first three", x.explains(1, 0, 20 + 19 + 18, 0), 0b111);
        due("explained by the twelfth", x.explains(1, 0, 9, 0), 0b100000000000);
        due("the thirteenth is not looked at", x.explains(1, 0, 8, 0), NONE);
        due("best of the first 10", x.best(3, 1), 0);
        due("freed", x.freed(3, 9999999), 20);
        due("lacks", x.lacks(3), 39 - 9);
        due("would be lost", x.would(90, 1), 20);
        due("rate", x.rate(0, 35, 2), 1);
        due("held of all", x.count(9), 210 + 1 + 2 + 3 + 4 + 5 + 6);
        due("matched", x.match(1, 0, 209), 19);
        due("one is left", x.ofLoad(0, 13), 2);
        due("the last one", x.match(1, 0, 1), 1);
        x.limit(3, 9999999);
        due("the others go", x.count(5), 20);
        due("best of none", x.best(3, 0), 0);
        due("no room", x.split(39, 1, 2), FULL);
        due("lost", x.days(90), 20);
        due("due of all", x.count(10), 790);
        due("due in all", x.total(NONE, 0), 790);
    }
}
